/-! which words of the tables the walk asks for, by numbers (by program: wip/pm/gen10.py) -/
def dG {α : Type} : List (List α) → Nat → List α
  | [], _ => []
  | c :: _, 0 => c
  | _ :: t, i + 1 => dG t i
def dH {α : Type} : List α → Nat → Option α
  | [], _ => none
  | c :: _, 0 => some c
  | _ :: t, i + 1 => dH t i
def dA {α : Type} (t : List (List α)) (h : Nat) : Option α := dH (dG t (h / 16)) (h % 16)
theorem dG_mem {α : Type} : ∀ {l : List (List α)} {i : Nat} {w : α}, w ∈ dG l i → ∃ ch ∈ l, w ∈ ch
  | [], _, _, h => by simp [dG] at h
  | c :: _, 0, _, h => ⟨c, List.mem_cons_self, h⟩
  | c :: t, i + 1, _, h => by
    obtain ⟨ch, h1, h2⟩ := dG_mem (l := t) (i := i) h
    exact ⟨ch, List.mem_cons_of_mem _ h1, h2⟩
theorem dH_mem {α : Type} : ∀ {l : List α} {i : Nat} {w : α}, dH l i = some w → w ∈ l
  | [], _, _, h => by simp [dH] at h
  | c :: _, 0, _, h => by simp [dH] at h; simp [h]
  | c :: t, i + 1, _, h => List.mem_cons_of_mem _ (dH_mem (l := t) (i := i) h)
theorem dA_all {α : Type} {P : α → Prop} {t : List (List α)} (ht : ∀ ch ∈ t, ∀ d ∈ ch, P d) {h : Nat} {d : α} (hh : dA t h = some d) : P d := by
  obtain ⟨ch, h1, h2⟩ := dG_mem (dH_mem hh)
  exact ht ch h1 d h2
def goods : List Jvm.Cond := lw_tbl.filter goodWord
theorem mem_goods {w : Jvm.Cond} (h : w ∈ lw_tbl) (hg : goodWord w = true) : w ∈ goods := List.mem_filter.mpr ⟨h, hg⟩
theorem in_g (h : Nat) {w : Jvm.Cond} (hh : ndA h = some w) (hg : goodWord w = true) : w ∈ goods := mem_goods (ndA_in hh) hg
def clQ (c : Nat) : vw_C := vwCl.getD c (RX0, TX0, 7)
def clC (c : Nat) : String := (clQ c).1
def clT (c : Nat) : u_T := (clQ c).2.1
def clN (c : Nat) : Nat := (clQ c).2.2
def clA (a : Nat) : String := if a < 13 then clC a else if a = 204 then RX4 else if a = 205 then RX5 else if a = 207 then RX7 else RJ0
def fW (d : Nat × Nat × Nat × Nat) : Jvm.Cond := .fieldLink (oC d.1) d.2.1 (clT d.2.2.1 d.2.2.2).1 (clT d.2.2.1 d.2.2.2).2.1 (clT d.2.2.1 d.2.2.2).2.2.1
def fN (d : Nat × Nat × Nat × Nat) : Jvm.Cond := .fieldLinkNest (oC d.1) d.2.1 (clT d.2.2.1 d.2.2.2).1 (clT d.2.2.1 d.2.2.2).2.1 (clT d.2.2.1 d.2.2.2).2.2.1 "StrengthHouse"
def mWd (d : Nat × Nat × Nat) : Jvm.Cond := .methodLink (oC d.1) d.2.1 (mY d.2.2)
def mNd (d : Nat × Nat × Nat) : Jvm.Cond := .methodLinkNest (oC d.1) d.2.1 (mY d.2.2) "StrengthHouse"
def cWd (d : Nat × Nat × Int) : Jvm.Cond := .constant (oC d.1) d.2.1 (Int32.ofInt d.2.2)
def lWd (d : Nat × Nat × Int) : Jvm.Cond := .constantLong (oC d.1) d.2.1 (Int64.ofInt d.2.2)
def kWd (d : Nat × Nat × Nat) : Jvm.Cond := .classLink (oC d.1) d.2.1 (clA d.2.2)
def sWd (d : Nat × Nat × Nat) : Jvm.Cond := match d.2.2 with
  | 1 => .fieldLink (oC d.1) d.2.1 "StrengthHouse$Piece" "ABOVE" "[I"
  | 2 => .fieldLink (oC d.1) d.2.1 "StrengthHouse$Voices" "BODIES" "[I"
  | 3 => .fieldLink (oC d.1) d.2.1 "java/lang/String" "COMPACT_STRINGS" "Z"
  | 4 => .fieldLink (oC d.1) d.2.1 "jdk/internal/util/Preconditions" "SIOOBE_FORMATTER" "Ljava/util/function/BiFunction;"
  | 5 => .fieldLink (oC d.1) d.2.1 "java/lang/String" "value" "[B"
  | 6 => .fieldLink (oC d.1) d.2.1 "java/lang/String" "coder" "B"
  | 7 => .methodLink (oC d.1) d.2.1 arraycopyName
  | _ => .methodLink (oC d.1) d.2.1 objectInit
def FD_0 : List (Nat × Nat × Nat × Nat) := [(2, 9, 2, 0), (2, 15, 2, 1), (2, 18, 2, 2), (2, 21, 2, 3), (0, 9, 0, 0), (0, 15, 0, 1), (0, 18, 0, 2), (0, 21, 0, 3), (0, 24, 0, 4), (0, 27, 0, 5), (0, 30, 0, 6), (6, 9, 6, 0), (6, 15, 6, 1), (6, 18, 6, 2), (6, 22, 6, 3), (6, 25, 6, 4)]
def FD_1 : List (Nat × Nat × Nat × Nat) := [(6, 28, 6, 5), (4, 9, 4, 0), (4, 15, 4, 1), (4, 18, 4, 2), (4, 21, 4, 3), (4, 25, 4, 4), (4, 31, 4, 5), (5, 9, 5, 0), (5, 15, 5, 1), (5, 19, 5, 2), (5, 22, 5, 3), (5, 26, 5, 4), (8, 11, 8, 0), (8, 17, 8, 1), (8, 23, 8, 2), (8, 28, 8, 3)]
def FD_2 : List (Nat × Nat × Nat × Nat) := [(8, 32, 8, 4), (8, 36, 8, 5), (8, 39, 8, 6), (8, 42, 8, 7), (8, 49, 8, 8), (8, 56, 8, 9), (8, 60, 8, 10), (8, 63, 8, 11), (10, 11, 10, 0), (10, 15, 10, 1), (10, 19, 10, 2), (10, 22, 10, 3), (10, 25, 10, 4), (10, 28, 10, 5), (10, 31, 10, 6), (10, 34, 10, 7)]
def FD_3 : List (Nat × Nat × Nat × Nat) := [(1, 11, 1, 0), (1, 18, 1, 1), (1, 25, 1, 2), (1, 29, 1, 3), (1, 33, 1, 4), (1, 36, 1, 5), (1, 39, 1, 6), (1, 42, 1, 7), (1, 45, 1, 8), (1, 48, 1, 9), (1, 51, 1, 10), (1, 54, 1, 11), (1, 57, 1, 12), (1, 60, 1, 13), (1, 64, 1, 14), (9, 9, 9, 0)]
def FD_4 : List (Nat × Nat × Nat × Nat) := [(9, 15, 9, 1), (9, 19, 9, 2), (9, 22, 9, 3), (3, 9, 3, 0), (3, 15, 3, 1), (3, 18, 3, 2), (7, 9, 7, 0), (7, 15, 7, 1), (7, 18, 7, 2), (11, 10, 11, 0), (11, 16, 11, 1), (11, 19, 11, 2), (11, 23, 11, 3), (11, 29, 11, 4), (11, 36, 11, 5), (11, 43, 11, 6)]
def FD_5 : List (Nat × Nat × Nat × Nat) := [(11, 50, 11, 7), (11, 57, 11, 8), (11, 64, 11, 9), (11, 68, 11, 10), (12, 9, 12, 0), (12, 13, 12, 1), (12, 351, 12, 2), (12, 16, 12, 3), (12, 20, 12, 4), (12, 37, 12, 5), (12, 143, 12, 6), (12, 139, 12, 7), (12, 149, 12, 8), (12, 171, 12, 9), (12, 41, 12, 10), (12, 189, 12, 11)]
def FD_6 : List (Nat × Nat × Nat × Nat) := [(12, 192, 12, 12), (12, 186, 12, 13), (12, 201, 12, 14), (12, 204, 12, 15), (12, 195, 12, 16), (12, 214, 12, 17), (12, 207, 12, 18), (12, 44, 12, 19), (12, 47, 12, 20), (12, 50, 12, 21), (12, 240, 12, 22), (12, 243, 12, 23), (12, 233, 12, 24), (12, 53, 12, 25), (12, 56, 12, 26), (12, 276, 12, 27)]
def FD_7 : List (Nat × Nat × Nat × Nat) := [(12, 59, 12, 28), (12, 62, 12, 29), (12, 65, 12, 30), (12, 321, 12, 31), (12, 324, 12, 32), (12, 333, 12, 33), (12, 68, 12, 34), (12, 71, 12, 35), (12, 74, 12, 36), (12, 77, 12, 37)]
def FDT : List (List (Nat × Nat × Nat × Nat)) := [FD_0, FD_1, FD_2, FD_3, FD_4, FD_5, FD_6, FD_7]
set_option maxRecDepth 100000 in
theorem FD_ok0 : ∀ d ∈ FD_0, fW d ∈ goods := List.forall_mem_cons.mpr ⟨in_g 126 rfl rfl, List.forall_mem_cons.mpr ⟨in_g 127 rfl rfl, List.forall_mem_cons.mpr ⟨in_g 128 rfl rfl, List.forall_mem_cons.mpr ⟨in_g 129 rfl rfl, List.forall_mem_cons.mpr ⟨in_g 147 rfl rfl, List.forall_mem_cons.mpr ⟨in_g 148 rfl rfl, List.forall_mem_cons.mpr ⟨in_g 149 rfl rfl, List.forall_mem_cons.mpr ⟨in_g 151 rfl rfl, List.forall_mem_cons.mpr ⟨in_g 153 rfl rfl, List.forall_mem_cons.mpr ⟨in_g 155 rfl rfl, List.forall_mem_cons.mpr ⟨in_g 157 rfl rfl, List.forall_mem_cons.mpr ⟨in_g 185 rfl rfl, List.forall_mem_cons.mpr ⟨in_g 186 rfl rfl, List.forall_mem_cons.mpr ⟨in_g 187 rfl rfl, List.forall_mem_cons.mpr ⟨in_g 191 rfl rfl, List.forall_mem_cons.mpr ⟨in_g 193 rfl rfl, fun _ h => by (cases h)⟩⟩⟩⟩⟩⟩⟩⟩⟩⟩⟩⟩⟩⟩⟩⟩
set_option maxRecDepth 100000 in
theorem FD_ok1 : ∀ d ∈ FD_1, fW d ∈ goods := List.forall_mem_cons.mpr ⟨in_g 195 rfl rfl, List.forall_mem_cons.mpr ⟨in_g 210 rfl rfl, List.forall_mem_cons.mpr ⟨in_g 213 rfl rfl, List.forall_mem_cons.mpr ⟨in_g 215 rfl rfl, List.forall_mem_cons.mpr ⟨in_g 218 rfl rfl, List.forall_mem_cons.mpr ⟨in_g 219 rfl rfl, List.forall_mem_cons.mpr ⟨in_g 221 rfl rfl, List.forall_mem_cons.mpr ⟨in_g 242 rfl rfl, List.forall_mem_cons.mpr ⟨in_g 245 rfl rfl, List.forall_mem_cons.mpr ⟨in_g 246 rfl rfl, List.forall_mem_cons.mpr ⟨in_g 247 rfl rfl, List.forall_mem_cons.mpr ⟨in_g 249 rfl rfl, List.forall_mem_cons.mpr ⟨in_g 263 rfl rfl, List.forall_mem_cons.mpr ⟨in_g 264 rfl rfl, List.forall_mem_cons.mpr ⟨in_g 265 rfl rfl, List.forall_mem_cons.mpr ⟨in_g 266 rfl rfl, fun _ h => by (cases h)⟩⟩⟩⟩⟩⟩⟩⟩⟩⟩⟩⟩⟩⟩⟩⟩
set_option maxRecDepth 100000 in
theorem FD_ok2 : ∀ d ∈ FD_2, fW d ∈ goods := List.forall_mem_cons.mpr ⟨in_g 267 rfl rfl, List.forall_mem_cons.mpr ⟨in_g 269 rfl rfl, List.forall_mem_cons.mpr ⟨in_g 271 rfl rfl, List.forall_mem_cons.mpr ⟨in_g 272 rfl rfl, List.forall_mem_cons.mpr ⟨in_g 274 rfl rfl, List.forall_mem_cons.mpr ⟨in_g 276 rfl rfl, List.forall_mem_cons.mpr ⟨in_g 278 rfl rfl, List.forall_mem_cons.mpr ⟨in_g 279 rfl rfl, List.forall_mem_cons.mpr ⟨in_g 314 rfl rfl, List.forall_mem_cons.mpr ⟨in_g 315 rfl rfl, List.forall_mem_cons.mpr ⟨in_g 316 rfl rfl, List.forall_mem_cons.mpr ⟨in_g 317 rfl rfl, List.forall_mem_cons.mpr ⟨in_g 319 rfl rfl, List.forall_mem_cons.mpr ⟨in_g 320 rfl rfl, List.forall_mem_cons.mpr ⟨in_g 321 rfl rfl, List.forall_mem_cons.mpr ⟨in_g 322 rfl rfl, fun _ h => by (cases h)⟩⟩⟩⟩⟩⟩⟩⟩⟩⟩⟩⟩⟩⟩⟩⟩
set_option maxRecDepth 100000 in
theorem FD_ok3 : ∀ d ∈ FD_3, fW d ∈ goods := List.forall_mem_cons.mpr ⟨in_g 351 rfl rfl, List.forall_mem_cons.mpr ⟨in_g 352 rfl rfl, List.forall_mem_cons.mpr ⟨in_g 354 rfl rfl, List.forall_mem_cons.mpr ⟨in_g 355 rfl rfl, List.forall_mem_cons.mpr ⟨in_g 356 rfl rfl, List.forall_mem_cons.mpr ⟨in_g 357 rfl rfl, List.forall_mem_cons.mpr ⟨in_g 358 rfl rfl, List.forall_mem_cons.mpr ⟨in_g 359 rfl rfl, List.forall_mem_cons.mpr ⟨in_g 360 rfl rfl, List.forall_mem_cons.mpr ⟨in_g 362 rfl rfl, List.forall_mem_cons.mpr ⟨in_g 363 rfl rfl, List.forall_mem_cons.mpr ⟨in_g 365 rfl rfl, List.forall_mem_cons.mpr ⟨in_g 368 rfl rfl, List.forall_mem_cons.mpr ⟨in_g 370 rfl rfl, List.forall_mem_cons.mpr ⟨in_g 371 rfl rfl, List.forall_mem_cons.mpr ⟨in_g 409 rfl rfl, fun _ h => by (cases h)⟩⟩⟩⟩⟩⟩⟩⟩⟩⟩⟩⟩⟩⟩⟩⟩
set_option maxRecDepth 100000 in
theorem FD_ok4 : ∀ d ∈ FD_4, fW d ∈ goods := List.forall_mem_cons.mpr ⟨in_g 410 rfl rfl, List.forall_mem_cons.mpr ⟨in_g 411 rfl rfl, List.forall_mem_cons.mpr ⟨in_g 412 rfl rfl, List.forall_mem_cons.mpr ⟨in_g 430 rfl rfl, List.forall_mem_cons.mpr ⟨in_g 431 rfl rfl, List.forall_mem_cons.mpr ⟨in_g 432 rfl rfl, List.forall_mem_cons.mpr ⟨in_g 447 rfl rfl, List.forall_mem_cons.mpr ⟨in_g 449 rfl rfl, List.forall_mem_cons.mpr ⟨in_g 450 rfl rfl, List.forall_mem_cons.mpr ⟨in_g 459 rfl rfl, List.forall_mem_cons.mpr ⟨in_g 460 rfl rfl, List.forall_mem_cons.mpr ⟨in_g 461 rfl rfl, List.forall_mem_cons.mpr ⟨in_g 462 rfl rfl, List.forall_mem_cons.mpr ⟨in_g 463 rfl rfl, List.forall_mem_cons.mpr ⟨in_g 464 rfl rfl, List.forall_mem_cons.mpr ⟨in_g 465 rfl rfl, fun _ h => by (cases h)⟩⟩⟩⟩⟩⟩⟩⟩⟩⟩⟩⟩⟩⟩⟩⟩
set_option maxRecDepth 100000 in
theorem FD_ok5 : ∀ d ∈ FD_5, fW d ∈ goods := List.forall_mem_cons.mpr ⟨in_g 466 rfl rfl, List.forall_mem_cons.mpr ⟨in_g 467 rfl rfl, List.forall_mem_cons.mpr ⟨in_g 468 rfl rfl, List.forall_mem_cons.mpr ⟨in_g 469 rfl rfl, List.forall_mem_cons.mpr ⟨in_g 1273 rfl rfl, List.forall_mem_cons.mpr ⟨in_g 1274 rfl rfl, List.forall_mem_cons.mpr ⟨in_g 1275 rfl rfl, List.forall_mem_cons.mpr ⟨in_g 1276 rfl rfl, List.forall_mem_cons.mpr ⟨in_g 1277 rfl rfl, List.forall_mem_cons.mpr ⟨in_g 1278 rfl rfl, List.forall_mem_cons.mpr ⟨in_g 1279 rfl rfl, List.forall_mem_cons.mpr ⟨in_g 1280 rfl rfl, List.forall_mem_cons.mpr ⟨in_g 1281 rfl rfl, List.forall_mem_cons.mpr ⟨in_g 1282 rfl rfl, List.forall_mem_cons.mpr ⟨in_g 1283 rfl rfl, List.forall_mem_cons.mpr ⟨in_g 1284 rfl rfl, fun _ h => by (cases h)⟩⟩⟩⟩⟩⟩⟩⟩⟩⟩⟩⟩⟩⟩⟩⟩
set_option maxRecDepth 100000 in
theorem FD_ok6 : ∀ d ∈ FD_6, fW d ∈ goods := List.forall_mem_cons.mpr ⟨in_g 1285 rfl rfl, List.forall_mem_cons.mpr ⟨in_g 1286 rfl rfl, List.forall_mem_cons.mpr ⟨in_g 1287 rfl rfl, List.forall_mem_cons.mpr ⟨in_g 1288 rfl rfl, List.forall_mem_cons.mpr ⟨in_g 1289 rfl rfl, List.forall_mem_cons.mpr ⟨in_g 1290 rfl rfl, List.forall_mem_cons.mpr ⟨in_g 1291 rfl rfl, List.forall_mem_cons.mpr ⟨in_g 1292 rfl rfl, List.forall_mem_cons.mpr ⟨in_g 1293 rfl rfl, List.forall_mem_cons.mpr ⟨in_g 1294 rfl rfl, List.forall_mem_cons.mpr ⟨in_g 1295 rfl rfl, List.forall_mem_cons.mpr ⟨in_g 1296 rfl rfl, List.forall_mem_cons.mpr ⟨in_g 1297 rfl rfl, List.forall_mem_cons.mpr ⟨in_g 1298 rfl rfl, List.forall_mem_cons.mpr ⟨in_g 1299 rfl rfl, List.forall_mem_cons.mpr ⟨in_g 1300 rfl rfl, fun _ h => by (cases h)⟩⟩⟩⟩⟩⟩⟩⟩⟩⟩⟩⟩⟩⟩⟩⟩
set_option maxRecDepth 100000 in
theorem FD_ok7 : ∀ d ∈ FD_7, fW d ∈ goods := List.forall_mem_cons.mpr ⟨in_g 1301 rfl rfl, List.forall_mem_cons.mpr ⟨in_g 1302 rfl rfl, List.forall_mem_cons.mpr ⟨in_g 1303 rfl rfl, List.forall_mem_cons.mpr ⟨in_g 1304 rfl rfl, List.forall_mem_cons.mpr ⟨in_g 1305 rfl rfl, List.forall_mem_cons.mpr ⟨in_g 1306 rfl rfl, List.forall_mem_cons.mpr ⟨in_g 1307 rfl rfl, List.forall_mem_cons.mpr ⟨in_g 1308 rfl rfl, List.forall_mem_cons.mpr ⟨in_g 1309 rfl rfl, List.forall_mem_cons.mpr ⟨in_g 1310 rfl rfl, fun _ h => by (cases h)⟩⟩⟩⟩⟩⟩⟩⟩⟩⟩
theorem FD_all : ∀ ch ∈ FDT, ∀ d ∈ ch, fW d ∈ goods := List.forall_mem_cons.mpr ⟨FD_ok0, List.forall_mem_cons.mpr ⟨FD_ok1, List.forall_mem_cons.mpr ⟨FD_ok2, List.forall_mem_cons.mpr ⟨FD_ok3, List.forall_mem_cons.mpr ⟨FD_ok4, List.forall_mem_cons.mpr ⟨FD_ok5, List.forall_mem_cons.mpr ⟨FD_ok6, List.forall_mem_cons.mpr ⟨FD_ok7, fun _ h => by (cases h)⟩⟩⟩⟩⟩⟩⟩⟩
def FN_0 : List (Nat × Nat × Nat × Nat) := [(11, 319, 0, 2), (11, 313, 0, 3), (11, 316, 0, 4), (11, 321, 0, 5), (11, 304, 0, 6), (11, 136, 6, 2), (8, 75, 6, 2), (1, 145, 6, 2), (11, 234, 6, 3), (11, 237, 6, 4), (11, 231, 6, 5), (10, 38, 4, 0), (11, 120, 4, 0), (11, 123, 4, 1), (10, 41, 4, 2), (11, 126, 4, 2)]
def FN_1 : List (Nat × Nat × Nat × Nat) := [(11, 129, 4, 4), (11, 132, 4, 5), (8, 71, 4, 5), (8, 68, 5, 0), (11, 198, 5, 0), (1, 71, 5, 3), (1, 87, 5, 4), (11, 202, 5, 4), (11, 186, 8, 4), (11, 175, 8, 5), (11, 222, 8, 7), (11, 282, 8, 8), (11, 300, 8, 9), (11, 386, 8, 11), (11, 357, 10, 3), (11, 354, 10, 7)]
def FN_2 : List (Nat × Nat × Nat × Nat) := [(11, 209, 1, 1), (8, 92, 1, 8), (8, 89, 1, 10), (11, 219, 1, 11), (8, 86, 1, 11), (8, 95, 1, 12), (0, 34, 3, 2), (11, 262, 3, 2), (11, 368, 7, 0), (11, 371, 7, 2)]
def FNT : List (List (Nat × Nat × Nat × Nat)) := [FN_0, FN_1, FN_2]
set_option maxRecDepth 100000 in
theorem FN_ok0 : ∀ d ∈ FN_0, fN d ∈ lw_tbl := List.forall_mem_cons.mpr ⟨ndA_in (h := 150) rfl, List.forall_mem_cons.mpr ⟨ndA_in (h := 152) rfl, List.forall_mem_cons.mpr ⟨ndA_in (h := 154) rfl, List.forall_mem_cons.mpr ⟨ndA_in (h := 156) rfl, List.forall_mem_cons.mpr ⟨ndA_in (h := 158) rfl, List.forall_mem_cons.mpr ⟨ndA_in (h := 188) rfl, List.forall_mem_cons.mpr ⟨ndA_in (h := 189) rfl, List.forall_mem_cons.mpr ⟨ndA_in (h := 190) rfl, List.forall_mem_cons.mpr ⟨ndA_in (h := 192) rfl, List.forall_mem_cons.mpr ⟨ndA_in (h := 194) rfl, List.forall_mem_cons.mpr ⟨ndA_in (h := 196) rfl, List.forall_mem_cons.mpr ⟨ndA_in (h := 211) rfl, List.forall_mem_cons.mpr ⟨ndA_in (h := 212) rfl, List.forall_mem_cons.mpr ⟨ndA_in (h := 214) rfl, List.forall_mem_cons.mpr ⟨ndA_in (h := 216) rfl, List.forall_mem_cons.mpr ⟨ndA_in (h := 217) rfl, fun _ h => by (cases h)⟩⟩⟩⟩⟩⟩⟩⟩⟩⟩⟩⟩⟩⟩⟩⟩
set_option maxRecDepth 100000 in
theorem FN_ok1 : ∀ d ∈ FN_1, fN d ∈ lw_tbl := List.forall_mem_cons.mpr ⟨ndA_in (h := 220) rfl, List.forall_mem_cons.mpr ⟨ndA_in (h := 222) rfl, List.forall_mem_cons.mpr ⟨ndA_in (h := 223) rfl, List.forall_mem_cons.mpr ⟨ndA_in (h := 243) rfl, List.forall_mem_cons.mpr ⟨ndA_in (h := 244) rfl, List.forall_mem_cons.mpr ⟨ndA_in (h := 248) rfl, List.forall_mem_cons.mpr ⟨ndA_in (h := 250) rfl, List.forall_mem_cons.mpr ⟨ndA_in (h := 251) rfl, List.forall_mem_cons.mpr ⟨ndA_in (h := 268) rfl, List.forall_mem_cons.mpr ⟨ndA_in (h := 270) rfl, List.forall_mem_cons.mpr ⟨ndA_in (h := 273) rfl, List.forall_mem_cons.mpr ⟨ndA_in (h := 275) rfl, List.forall_mem_cons.mpr ⟨ndA_in (h := 277) rfl, List.forall_mem_cons.mpr ⟨ndA_in (h := 280) rfl, List.forall_mem_cons.mpr ⟨ndA_in (h := 318) rfl, List.forall_mem_cons.mpr ⟨ndA_in (h := 323) rfl, fun _ h => by (cases h)⟩⟩⟩⟩⟩⟩⟩⟩⟩⟩⟩⟩⟩⟩⟩⟩
set_option maxRecDepth 100000 in
theorem FN_ok2 : ∀ d ∈ FN_2, fN d ∈ lw_tbl := List.forall_mem_cons.mpr ⟨ndA_in (h := 353) rfl, List.forall_mem_cons.mpr ⟨ndA_in (h := 361) rfl, List.forall_mem_cons.mpr ⟨ndA_in (h := 364) rfl, List.forall_mem_cons.mpr ⟨ndA_in (h := 366) rfl, List.forall_mem_cons.mpr ⟨ndA_in (h := 367) rfl, List.forall_mem_cons.mpr ⟨ndA_in (h := 369) rfl, List.forall_mem_cons.mpr ⟨ndA_in (h := 433) rfl, List.forall_mem_cons.mpr ⟨ndA_in (h := 434) rfl, List.forall_mem_cons.mpr ⟨ndA_in (h := 448) rfl, List.forall_mem_cons.mpr ⟨ndA_in (h := 451) rfl, fun _ h => by (cases h)⟩⟩⟩⟩⟩⟩⟩⟩⟩⟩
theorem FN_all : ∀ ch ∈ FNT, ∀ d ∈ ch, fN d ∈ lw_tbl := List.forall_mem_cons.mpr ⟨FN_ok0, List.forall_mem_cons.mpr ⟨FN_ok1, List.forall_mem_cons.mpr ⟨FN_ok2, fun _ h => by (cases h)⟩⟩⟩
def MD_0 : List (Nat × Nat × Nat) := [(13, 9, 115), (11, 9, 81), (13, 13, 116), (11, 72, 159), (11, 76, 166), (11, 80, 167), (11, 84, 157), (11, 88, 75), (11, 92, 79), (7, 31, 76), (7, 35, 77), (11, 95, 84), (11, 99, 39), (4, 35, 54), (11, 105, 77), (11, 108, 40)]
def MD_1 : List (Nat × Nat × Nat) := [(11, 112, 82), (13, 18, 117), (11, 116, 83), (11, 139, 60), (6, 38, 59), (6, 35, 57), (13, 23, 118), (11, 142, 42), (4, 41, 41), (13, 27, 119), (11, 145, 170), (11, 148, 44), (4, 45, 43), (4, 49, 45), (4, 52, 42), (4, 56, 271)]
def MD_2 : List (Nat × Nat × Nat) := [(13, 31, 120), (11, 151, 80), (11, 154, 54), (11, 157, 55), (13, 36, 121), (11, 161, 56), (11, 164, 57), (13, 40, 122), (11, 165, 88), (11, 169, 89), (11, 172, 90), (13, 46, 123), (11, 178, 91), (13, 51, 124), (11, 182, 85), (11, 190, 98)]
def MD_3 : List (Nat × Nat × Nat) := [(9, 25, 272), (9, 31, 271), (9, 34, 48), (9, 39, 104), (9, 87, 105), (9, 99, 106), (9, 83, 107), (9, 44, 103), (9, 91, 274), (14, 335, 276), (9, 95, 275), (14, 492, 277), (14, 495, 279), (15, 9, 278), (14, 1059, 280), (9, 48, 99)]
def MD_4 : List (Nat × Nat × Nat) := [(9, 56, 100), (9, 67, 101), (9, 60, 49), (9, 64, 102), (11, 194, 52), (13, 56, 125), (11, 205, 10), (1, 67, 11), (1, 90, 54), (1, 93, 89), (1, 76, 50), (1, 80, 51), (1, 83, 12), (1, 98, 13), (1, 102, 14), (1, 110, 18)]
def MD_5 : List (Nat × Nat × Nat) := [(1, 142, 44), (1, 106, 15), (1, 114, 16), (1, 134, 17), (1, 138, 42), (1, 117, 271), (1, 122, 43), (1, 125, 269), (1, 128, 19), (1, 148, 55), (1, 131, 20), (11, 212, 72), (11, 215, 92), (13, 60, 126), (11, 225, 93), (13, 64, 127)]
def MD_6 : List (Nat × Nat × Nat) := [(11, 228, 61), (6, 42, 62), (6, 31, 56), (6, 46, 63), (13, 68, 128), (11, 240, 64), (6, 50, 61), (11, 243, 158), (13, 72, 129), (11, 246, 69), (6, 54, 65), (6, 70, 64), (6, 73, 70), (6, 76, 66), (6, 81, 67), (6, 60, 68)]
def MD_7 : List (Nat × Nat × Nat) := [(6, 64, 271), (6, 85, 273), (13, 76, 130), (11, 249, 66), (13, 80, 131), (11, 252, 67), (13, 85, 132), (11, 256, 168), (13, 89, 133), (11, 259, 160), (11, 403, 30), (11, 404, 71), (11, 407, 31), (11, 263, 32), (13, 93, 134), (11, 266, 161)]
def MD_8 : List (Nat × Nat × Nat) := [(11, 269, 34), (3, 22, 35), (3, 26, 32), (13, 97, 135), (11, 272, 171), (11, 275, 36), (3, 32, 37), (13, 102, 136), (13, 106, 137), (11, 279, 169), (11, 286, 22), (13, 110, 138), (11, 293, 24), (2, 28, 25), (2, 38, 273), (2, 32, 23)]
def MD_9 : List (Nat × Nat × Nat) := [(11, 297, 26), (2, 44, 24), (13, 114, 139), (11, 307, 2), (0, 37, 32), (0, 41, 33), (13, 118, 140), (11, 310, 1), (13, 122, 141), (11, 324, 3), (0, 44, 1), (11, 327, 4), (13, 126, 142), (11, 330, 6), (13, 130, 143), (11, 333, 7)]
def MD_10 : List (Nat × Nat × Nat) := [(0, 48, 27), (13, 134, 144), (11, 337, 162), (11, 410, 163), (11, 413, 272), (13, 138, 145), (11, 342, 268), (11, 347, 164), (11, 418, 270), (13, 142, 146), (11, 350, 109), (10, 42, 111), (10, 52, 112), (10, 56, 41), (10, 60, 113), (10, 67, 114)]
def MD_11 : List (Nat × Nat × Nat) := [(13, 146, 147), (11, 358, 110), (13, 150, 148), (11, 361, 74), (7, 22, 272), (7, 28, 271), (13, 154, 149), (11, 363, 76), (11, 366, 78), (13, 158, 150), (13, 162, 151), (11, 380, 96), (8, 98, 46), (4, 72, 72), (8, 102, 52), (8, 111, 28)]
def MD_12 : List (Nat × Nat × Nat) := [(8, 114, 8), (13, 167, 152), (13, 171, 153), (11, 383, 94), (13, 175, 154), (11, 389, 165), (11, 421, 271), (11, 424, 95), (11, 427, 58), (13, 179, 155), (11, 393, 5), (11, 396, 86), (11, 399, 87), (13, 183, 156), (13, 12, 173), (13, 17, 181)]
def MD_13 : List (Nat × Nat × Nat) := [(12, 81, 175), (12, 85, 257), (12, 90, 174), (13, 22, 186), (12, 102, 176), (12, 106, 182), (12, 96, 180), (12, 109, 185), (12, 100, 184), (13, 26, 188), (12, 112, 187), (13, 30, 191), (12, 124, 190), (12, 116, 189), (12, 119, 271), (13, 35, 193)]
def MD_14 : List (Nat × Nat × Nat) := [(12, 128, 192), (13, 39, 194), (12, 131, 183), (13, 43, 195), (12, 134, 179), (13, 50, 196), (13, 55, 203), (12, 174, 202), (12, 161, 198), (12, 146, 197), (12, 177, 201), (12, 164, 199), (12, 153, 274), (12, 157, 275), (12, 168, 200), (13, 59, 211)]
def MD_15 : List (Nat × Nat × Nat) := [(12, 227, 204), (12, 230, 210), (12, 223, 209), (12, 210, 207), (12, 198, 205), (12, 217, 208), (12, 220, 206), (13, 63, 212), (13, 67, 215), (12, 246, 214), (12, 236, 213), (13, 71, 217), (12, 249, 216), (13, 75, 219), (12, 252, 218), (13, 79, 221)]
def MD_16 : List (Nat × Nat × Nat) := [(12, 257, 220), (13, 84, 223), (12, 260, 222), (13, 88, 226), (12, 270, 225), (12, 273, 224), (12, 266, 273), (13, 92, 230), (12, 279, 229), (12, 282, 228), (12, 285, 227), (13, 96, 232), (12, 288, 231), (13, 101, 235), (12, 293, 234), (12, 296, 233)]
def MD_17 : List (Nat × Nat × Nat) := [(13, 105, 236), (13, 109, 239), (12, 300, 237), (13, 113, 241), (12, 303, 238), (12, 306, 240), (13, 117, 243), (13, 121, 244), (12, 309, 242), (13, 125, 245), (13, 129, 246), (13, 133, 247), (13, 137, 248), (12, 312, 177), (13, 141, 249), (12, 315, 178)]
def MD_18 : List (Nat × Nat × Nat) := [(12, 318, 270), (13, 145, 255), (12, 343, 252), (12, 327, 253), (12, 330, 251), (12, 336, 254), (12, 339, 250), (13, 149, 256), (13, 153, 258), (13, 157, 259), (13, 161, 260), (13, 166, 262), (12, 347, 261), (13, 170, 263), (13, 174, 264), (13, 178, 265)]
def MD_19 : List (Nat × Nat × Nat) := [(13, 182, 266), (13, 186, 267)]
def MDT : List (List (Nat × Nat × Nat)) := [MD_0, MD_1, MD_2, MD_3, MD_4, MD_5, MD_6, MD_7, MD_8, MD_9, MD_10, MD_11, MD_12, MD_13, MD_14, MD_15, MD_16, MD_17, MD_18, MD_19]
set_option maxRecDepth 100000 in
theorem MD_ok0 : ∀ d ∈ MD_0, mWd d ∈ goods := List.forall_mem_cons.mpr ⟨in_g 103 rfl rfl, List.forall_mem_cons.mpr ⟨in_g 111 rfl rfl, List.forall_mem_cons.mpr ⟨in_g 493 rfl rfl, List.forall_mem_cons.mpr ⟨in_g 497 rfl rfl, List.forall_mem_cons.mpr ⟨in_g 501 rfl rfl, List.forall_mem_cons.mpr ⟨in_g 504 rfl rfl, List.forall_mem_cons.mpr ⟨in_g 507 rfl rfl, List.forall_mem_cons.mpr ⟨in_g 512 rfl rfl, List.forall_mem_cons.mpr ⟨in_g 516 rfl rfl, List.forall_mem_cons.mpr ⟨in_g 520 rfl rfl, List.forall_mem_cons.mpr ⟨in_g 524 rfl rfl, List.forall_mem_cons.mpr ⟨in_g 529 rfl rfl, List.forall_mem_cons.mpr ⟨in_g 533 rfl rfl, List.forall_mem_cons.mpr ⟨in_g 537 rfl rfl, List.forall_mem_cons.mpr ⟨in_g 541 rfl rfl, List.forall_mem_cons.mpr ⟨in_g 542 rfl rfl, fun _ h => by (cases h)⟩⟩⟩⟩⟩⟩⟩⟩⟩⟩⟩⟩⟩⟩⟩⟩
set_option maxRecDepth 100000 in
theorem MD_ok1 : ∀ d ∈ MD_1, mWd d ∈ goods := List.forall_mem_cons.mpr ⟨in_g 546 rfl rfl, List.forall_mem_cons.mpr ⟨in_g 550 rfl rfl, List.forall_mem_cons.mpr ⟨in_g 554 rfl rfl, List.forall_mem_cons.mpr ⟨in_g 558 rfl rfl, List.forall_mem_cons.mpr ⟨in_g 562 rfl rfl, List.forall_mem_cons.mpr ⟨in_g 566 rfl rfl, List.forall_mem_cons.mpr ⟨in_g 570 rfl rfl, List.forall_mem_cons.mpr ⟨in_g 574 rfl rfl, List.forall_mem_cons.mpr ⟨in_g 578 rfl rfl, List.forall_mem_cons.mpr ⟨in_g 583 rfl rfl, List.forall_mem_cons.mpr ⟨in_g 587 rfl rfl, List.forall_mem_cons.mpr ⟨in_g 590 rfl rfl, List.forall_mem_cons.mpr ⟨in_g 594 rfl rfl, List.forall_mem_cons.mpr ⟨in_g 598 rfl rfl, List.forall_mem_cons.mpr ⟨in_g 605 rfl rfl, List.forall_mem_cons.mpr ⟨in_g 606 rfl rfl, fun _ h => by (cases h)⟩⟩⟩⟩⟩⟩⟩⟩⟩⟩⟩⟩⟩⟩⟩⟩
set_option maxRecDepth 100000 in
theorem MD_ok2 : ∀ d ∈ MD_2, mWd d ∈ goods := List.forall_mem_cons.mpr ⟨in_g 609 rfl rfl, List.forall_mem_cons.mpr ⟨in_g 613 rfl rfl, List.forall_mem_cons.mpr ⟨in_g 618 rfl rfl, List.forall_mem_cons.mpr ⟨in_g 619 rfl rfl, List.forall_mem_cons.mpr ⟨in_g 623 rfl rfl, List.forall_mem_cons.mpr ⟨in_g 627 rfl rfl, List.forall_mem_cons.mpr ⟨in_g 631 rfl rfl, List.forall_mem_cons.mpr ⟨in_g 632 rfl rfl, List.forall_mem_cons.mpr ⟨in_g 636 rfl rfl, List.forall_mem_cons.mpr ⟨in_g 640 rfl rfl, List.forall_mem_cons.mpr ⟨in_g 644 rfl rfl, List.forall_mem_cons.mpr ⟨in_g 648 rfl rfl, List.forall_mem_cons.mpr ⟨in_g 652 rfl rfl, List.forall_mem_cons.mpr ⟨in_g 656 rfl rfl, List.forall_mem_cons.mpr ⟨in_g 660 rfl rfl, List.forall_mem_cons.mpr ⟨in_g 664 rfl rfl, fun _ h => by (cases h)⟩⟩⟩⟩⟩⟩⟩⟩⟩⟩⟩⟩⟩⟩⟩⟩
set_option maxRecDepth 100000 in
theorem MD_ok3 : ∀ d ∈ MD_3, mWd d ∈ goods := List.forall_mem_cons.mpr ⟨in_g 668 rfl rfl, List.forall_mem_cons.mpr ⟨in_g 671 rfl rfl, List.forall_mem_cons.mpr ⟨in_g 672 rfl rfl, List.forall_mem_cons.mpr ⟨in_g 676 rfl rfl, List.forall_mem_cons.mpr ⟨in_g 680 rfl rfl, List.forall_mem_cons.mpr ⟨in_g 684 rfl rfl, List.forall_mem_cons.mpr ⟨in_g 689 rfl rfl, List.forall_mem_cons.mpr ⟨in_g 694 rfl rfl, List.forall_mem_cons.mpr ⟨in_g 698 rfl rfl, List.forall_mem_cons.mpr ⟨in_g 702 rfl rfl, List.forall_mem_cons.mpr ⟨in_g 708 rfl rfl, List.forall_mem_cons.mpr ⟨in_g 712 rfl rfl, List.forall_mem_cons.mpr ⟨in_g 716 rfl rfl, List.forall_mem_cons.mpr ⟨in_g 719 rfl rfl, List.forall_mem_cons.mpr ⟨in_g 724 rfl rfl, List.forall_mem_cons.mpr ⟨in_g 746 rfl rfl, fun _ h => by (cases h)⟩⟩⟩⟩⟩⟩⟩⟩⟩⟩⟩⟩⟩⟩⟩⟩
set_option maxRecDepth 100000 in
theorem MD_ok4 : ∀ d ∈ MD_4, mWd d ∈ goods := List.forall_mem_cons.mpr ⟨in_g 750 rfl rfl, List.forall_mem_cons.mpr ⟨in_g 754 rfl rfl, List.forall_mem_cons.mpr ⟨in_g 763 rfl rfl, List.forall_mem_cons.mpr ⟨in_g 767 rfl rfl, List.forall_mem_cons.mpr ⟨in_g 773 rfl rfl, List.forall_mem_cons.mpr ⟨in_g 780 rfl rfl, List.forall_mem_cons.mpr ⟨in_g 784 rfl rfl, List.forall_mem_cons.mpr ⟨in_g 788 rfl rfl, List.forall_mem_cons.mpr ⟨in_g 792 rfl rfl, List.forall_mem_cons.mpr ⟨in_g 793 rfl rfl, List.forall_mem_cons.mpr ⟨in_g 794 rfl rfl, List.forall_mem_cons.mpr ⟨in_g 798 rfl rfl, List.forall_mem_cons.mpr ⟨in_g 802 rfl rfl, List.forall_mem_cons.mpr ⟨in_g 806 rfl rfl, List.forall_mem_cons.mpr ⟨in_g 809 rfl rfl, List.forall_mem_cons.mpr ⟨in_g 813 rfl rfl, fun _ h => by (cases h)⟩⟩⟩⟩⟩⟩⟩⟩⟩⟩⟩⟩⟩⟩⟩⟩
set_option maxRecDepth 100000 in
theorem MD_ok5 : ∀ d ∈ MD_5, mWd d ∈ goods := List.forall_mem_cons.mpr ⟨in_g 817 rfl rfl, List.forall_mem_cons.mpr ⟨in_g 818 rfl rfl, List.forall_mem_cons.mpr ⟨in_g 822 rfl rfl, List.forall_mem_cons.mpr ⟨in_g 826 rfl rfl, List.forall_mem_cons.mpr ⟨in_g 830 rfl rfl, List.forall_mem_cons.mpr ⟨in_g 831 rfl rfl, List.forall_mem_cons.mpr ⟨in_g 832 rfl rfl, List.forall_mem_cons.mpr ⟨in_g 833 rfl rfl, List.forall_mem_cons.mpr ⟨in_g 836 rfl rfl, List.forall_mem_cons.mpr ⟨in_g 840 rfl rfl, List.forall_mem_cons.mpr ⟨in_g 841 rfl rfl, List.forall_mem_cons.mpr ⟨in_g 845 rfl rfl, List.forall_mem_cons.mpr ⟨in_g 850 rfl rfl, List.forall_mem_cons.mpr ⟨in_g 854 rfl rfl, List.forall_mem_cons.mpr ⟨in_g 858 rfl rfl, List.forall_mem_cons.mpr ⟨in_g 862 rfl rfl, fun _ h => by (cases h)⟩⟩⟩⟩⟩⟩⟩⟩⟩⟩⟩⟩⟩⟩⟩⟩
set_option maxRecDepth 100000 in
theorem MD_ok6 : ∀ d ∈ MD_6, mWd d ∈ goods := List.forall_mem_cons.mpr ⟨in_g 866 rfl rfl, List.forall_mem_cons.mpr ⟨in_g 870 rfl rfl, List.forall_mem_cons.mpr ⟨in_g 874 rfl rfl, List.forall_mem_cons.mpr ⟨in_g 875 rfl rfl, List.forall_mem_cons.mpr ⟨in_g 879 rfl rfl, List.forall_mem_cons.mpr ⟨in_g 883 rfl rfl, List.forall_mem_cons.mpr ⟨in_g 887 rfl rfl, List.forall_mem_cons.mpr ⟨in_g 888 rfl rfl, List.forall_mem_cons.mpr ⟨in_g 892 rfl rfl, List.forall_mem_cons.mpr ⟨in_g 896 rfl rfl, List.forall_mem_cons.mpr ⟨in_g 900 rfl rfl, List.forall_mem_cons.mpr ⟨in_g 904 rfl rfl, List.forall_mem_cons.mpr ⟨in_g 905 rfl rfl, List.forall_mem_cons.mpr ⟨in_g 909 rfl rfl, List.forall_mem_cons.mpr ⟨in_g 915 rfl rfl, List.forall_mem_cons.mpr ⟨in_g 919 rfl rfl, fun _ h => by (cases h)⟩⟩⟩⟩⟩⟩⟩⟩⟩⟩⟩⟩⟩⟩⟩⟩
set_option maxRecDepth 100000 in
theorem MD_ok7 : ∀ d ∈ MD_7, mWd d ∈ goods := List.forall_mem_cons.mpr ⟨in_g 923 rfl rfl, List.forall_mem_cons.mpr ⟨in_g 924 rfl rfl, List.forall_mem_cons.mpr ⟨in_g 927 rfl rfl, List.forall_mem_cons.mpr ⟨in_g 931 rfl rfl, List.forall_mem_cons.mpr ⟨in_g 932 rfl rfl, List.forall_mem_cons.mpr ⟨in_g 936 rfl rfl, List.forall_mem_cons.mpr ⟨in_g 937 rfl rfl, List.forall_mem_cons.mpr ⟨in_g 941 rfl rfl, List.forall_mem_cons.mpr ⟨in_g 944 rfl rfl, List.forall_mem_cons.mpr ⟨in_g 948 rfl rfl, List.forall_mem_cons.mpr ⟨in_g 952 rfl rfl, List.forall_mem_cons.mpr ⟨in_g 956 rfl rfl, List.forall_mem_cons.mpr ⟨in_g 961 rfl rfl, List.forall_mem_cons.mpr ⟨in_g 965 rfl rfl, List.forall_mem_cons.mpr ⟨in_g 969 rfl rfl, List.forall_mem_cons.mpr ⟨in_g 973 rfl rfl, fun _ h => by (cases h)⟩⟩⟩⟩⟩⟩⟩⟩⟩⟩⟩⟩⟩⟩⟩⟩
set_option maxRecDepth 100000 in
theorem MD_ok8 : ∀ d ∈ MD_8, mWd d ∈ goods := List.forall_mem_cons.mpr ⟨in_g 977 rfl rfl, List.forall_mem_cons.mpr ⟨in_g 981 rfl rfl, List.forall_mem_cons.mpr ⟨in_g 985 rfl rfl, List.forall_mem_cons.mpr ⟨in_g 987 rfl rfl, List.forall_mem_cons.mpr ⟨in_g 991 rfl rfl, List.forall_mem_cons.mpr ⟨in_g 994 rfl rfl, List.forall_mem_cons.mpr ⟨in_g 997 rfl rfl, List.forall_mem_cons.mpr ⟨in_g 1001 rfl rfl, List.forall_mem_cons.mpr ⟨in_g 1005 rfl rfl, List.forall_mem_cons.mpr ⟨in_g 1009 rfl rfl, List.forall_mem_cons.mpr ⟨in_g 1012 rfl rfl, List.forall_mem_cons.mpr ⟨in_g 1017 rfl rfl, List.forall_mem_cons.mpr ⟨in_g 1022 rfl rfl, List.forall_mem_cons.mpr ⟨in_g 1026 rfl rfl, List.forall_mem_cons.mpr ⟨in_g 1031 rfl rfl, List.forall_mem_cons.mpr ⟨in_g 1032 rfl rfl, fun _ h => by (cases h)⟩⟩⟩⟩⟩⟩⟩⟩⟩⟩⟩⟩⟩⟩⟩⟩
set_option maxRecDepth 100000 in
theorem MD_ok9 : ∀ d ∈ MD_9, mWd d ∈ goods := List.forall_mem_cons.mpr ⟨in_g 1036 rfl rfl, List.forall_mem_cons.mpr ⟨in_g 1040 rfl rfl, List.forall_mem_cons.mpr ⟨in_g 1041 rfl rfl, List.forall_mem_cons.mpr ⟨in_g 1045 rfl rfl, List.forall_mem_cons.mpr ⟨in_g 1049 rfl rfl, List.forall_mem_cons.mpr ⟨in_g 1050 rfl rfl, List.forall_mem_cons.mpr ⟨in_g 1054 rfl rfl, List.forall_mem_cons.mpr ⟨in_g 1058 rfl rfl, List.forall_mem_cons.mpr ⟨in_g 1062 rfl rfl, List.forall_mem_cons.mpr ⟨in_g 1066 rfl rfl, List.forall_mem_cons.mpr ⟨in_g 1070 rfl rfl, List.forall_mem_cons.mpr ⟨in_g 1071 rfl rfl, List.forall_mem_cons.mpr ⟨in_g 1075 rfl rfl, List.forall_mem_cons.mpr ⟨in_g 1079 rfl rfl, List.forall_mem_cons.mpr ⟨in_g 1083 rfl rfl, List.forall_mem_cons.mpr ⟨in_g 1087 rfl rfl, fun _ h => by (cases h)⟩⟩⟩⟩⟩⟩⟩⟩⟩⟩⟩⟩⟩⟩⟩⟩
set_option maxRecDepth 100000 in
theorem MD_ok10 : ∀ d ∈ MD_10, mWd d ∈ goods := List.forall_mem_cons.mpr ⟨in_g 1091 rfl rfl, List.forall_mem_cons.mpr ⟨in_g 1095 rfl rfl, List.forall_mem_cons.mpr ⟨in_g 1099 rfl rfl, List.forall_mem_cons.mpr ⟨in_g 1104 rfl rfl, List.forall_mem_cons.mpr ⟨in_g 1107 rfl rfl, List.forall_mem_cons.mpr ⟨in_g 1108 rfl rfl, List.forall_mem_cons.mpr ⟨in_g 1112 rfl rfl, List.forall_mem_cons.mpr ⟨in_g 1118 rfl rfl, List.forall_mem_cons.mpr ⟨in_g 1121 rfl rfl, List.forall_mem_cons.mpr ⟨in_g 1124 rfl rfl, List.forall_mem_cons.mpr ⟨in_g 1128 rfl rfl, List.forall_mem_cons.mpr ⟨in_g 1132 rfl rfl, List.forall_mem_cons.mpr ⟨in_g 1136 rfl rfl, List.forall_mem_cons.mpr ⟨in_g 1141 rfl rfl, List.forall_mem_cons.mpr ⟨in_g 1142 rfl rfl, List.forall_mem_cons.mpr ⟨in_g 1146 rfl rfl, fun _ h => by (cases h)⟩⟩⟩⟩⟩⟩⟩⟩⟩⟩⟩⟩⟩⟩⟩⟩
set_option maxRecDepth 100000 in
theorem MD_ok11 : ∀ d ∈ MD_11, mWd d ∈ goods := List.forall_mem_cons.mpr ⟨in_g 1151 rfl rfl, List.forall_mem_cons.mpr ⟨in_g 1155 rfl rfl, List.forall_mem_cons.mpr ⟨in_g 1159 rfl rfl, List.forall_mem_cons.mpr ⟨in_g 1163 rfl rfl, List.forall_mem_cons.mpr ⟨in_g 1167 rfl rfl, List.forall_mem_cons.mpr ⟨in_g 1168 rfl rfl, List.forall_mem_cons.mpr ⟨in_g 1169 rfl rfl, List.forall_mem_cons.mpr ⟨in_g 1173 rfl rfl, List.forall_mem_cons.mpr ⟨in_g 1174 rfl rfl, List.forall_mem_cons.mpr ⟨in_g 1178 rfl rfl, List.forall_mem_cons.mpr ⟨in_g 1183 rfl rfl, List.forall_mem_cons.mpr ⟨in_g 1187 rfl rfl, List.forall_mem_cons.mpr ⟨in_g 1191 rfl rfl, List.forall_mem_cons.mpr ⟨in_g 1196 rfl rfl, List.forall_mem_cons.mpr ⟨in_g 1197 rfl rfl, List.forall_mem_cons.mpr ⟨in_g 1199 rfl rfl, fun _ h => by (cases h)⟩⟩⟩⟩⟩⟩⟩⟩⟩⟩⟩⟩⟩⟩⟩⟩
set_option maxRecDepth 100000 in
theorem MD_ok12 : ∀ d ∈ MD_12, mWd d ∈ goods := List.forall_mem_cons.mpr ⟨in_g 1204 rfl rfl, List.forall_mem_cons.mpr ⟨in_g 1209 rfl rfl, List.forall_mem_cons.mpr ⟨in_g 1213 rfl rfl, List.forall_mem_cons.mpr ⟨in_g 1217 rfl rfl, List.forall_mem_cons.mpr ⟨in_g 1221 rfl rfl, List.forall_mem_cons.mpr ⟨in_g 1225 rfl rfl, List.forall_mem_cons.mpr ⟨in_g 1229 rfl rfl, List.forall_mem_cons.mpr ⟨in_g 1230 rfl rfl, List.forall_mem_cons.mpr ⟨in_g 1234 rfl rfl, List.forall_mem_cons.mpr ⟨in_g 1238 rfl rfl, List.forall_mem_cons.mpr ⟨in_g 1242 rfl rfl, List.forall_mem_cons.mpr ⟨in_g 1246 rfl rfl, List.forall_mem_cons.mpr ⟨in_g 1250 rfl rfl, List.forall_mem_cons.mpr ⟨in_g 1254 rfl rfl, List.forall_mem_cons.mpr ⟨in_g 1260 rfl rfl, List.forall_mem_cons.mpr ⟨in_g 1388 rfl rfl, fun _ h => by (cases h)⟩⟩⟩⟩⟩⟩⟩⟩⟩⟩⟩⟩⟩⟩⟩⟩
set_option maxRecDepth 100000 in
theorem MD_ok13 : ∀ d ∈ MD_13, mWd d ∈ goods := List.forall_mem_cons.mpr ⟨in_g 1392 rfl rfl, List.forall_mem_cons.mpr ⟨in_g 1395 rfl rfl, List.forall_mem_cons.mpr ⟨in_g 1399 rfl rfl, List.forall_mem_cons.mpr ⟨in_g 1406 rfl rfl, List.forall_mem_cons.mpr ⟨in_g 1410 rfl rfl, List.forall_mem_cons.mpr ⟨in_g 1414 rfl rfl, List.forall_mem_cons.mpr ⟨in_g 1418 rfl rfl, List.forall_mem_cons.mpr ⟨in_g 1422 rfl rfl, List.forall_mem_cons.mpr ⟨in_g 1426 rfl rfl, List.forall_mem_cons.mpr ⟨in_g 1430 rfl rfl, List.forall_mem_cons.mpr ⟨in_g 1434 rfl rfl, List.forall_mem_cons.mpr ⟨in_g 1438 rfl rfl, List.forall_mem_cons.mpr ⟨in_g 1442 rfl rfl, List.forall_mem_cons.mpr ⟨in_g 1446 rfl rfl, List.forall_mem_cons.mpr ⟨in_g 1450 rfl rfl, List.forall_mem_cons.mpr ⟨in_g 1451 rfl rfl, fun _ h => by (cases h)⟩⟩⟩⟩⟩⟩⟩⟩⟩⟩⟩⟩⟩⟩⟩⟩
set_option maxRecDepth 100000 in
theorem MD_ok14 : ∀ d ∈ MD_14, mWd d ∈ goods := List.forall_mem_cons.mpr ⟨in_g 1456 rfl rfl, List.forall_mem_cons.mpr ⟨in_g 1460 rfl rfl, List.forall_mem_cons.mpr ⟨in_g 1464 rfl rfl, List.forall_mem_cons.mpr ⟨in_g 1468 rfl rfl, List.forall_mem_cons.mpr ⟨in_g 1472 rfl rfl, List.forall_mem_cons.mpr ⟨in_g 1476 rfl rfl, List.forall_mem_cons.mpr ⟨in_g 1481 rfl rfl, List.forall_mem_cons.mpr ⟨in_g 1485 rfl rfl, List.forall_mem_cons.mpr ⟨in_g 1489 rfl rfl, List.forall_mem_cons.mpr ⟨in_g 1493 rfl rfl, List.forall_mem_cons.mpr ⟨in_g 1497 rfl rfl, List.forall_mem_cons.mpr ⟨in_g 1501 rfl rfl, List.forall_mem_cons.mpr ⟨in_g 1505 rfl rfl, List.forall_mem_cons.mpr ⟨in_g 1506 rfl rfl, List.forall_mem_cons.mpr ⟨in_g 1507 rfl rfl, List.forall_mem_cons.mpr ⟨in_g 1514 rfl rfl, fun _ h => by (cases h)⟩⟩⟩⟩⟩⟩⟩⟩⟩⟩⟩⟩⟩⟩⟩⟩
set_option maxRecDepth 100000 in
theorem MD_ok15 : ∀ d ∈ MD_15, mWd d ∈ goods := List.forall_mem_cons.mpr ⟨in_g 1518 rfl rfl, List.forall_mem_cons.mpr ⟨in_g 1522 rfl rfl, List.forall_mem_cons.mpr ⟨in_g 1526 rfl rfl, List.forall_mem_cons.mpr ⟨in_g 1530 rfl rfl, List.forall_mem_cons.mpr ⟨in_g 1534 rfl rfl, List.forall_mem_cons.mpr ⟨in_g 1538 rfl rfl, List.forall_mem_cons.mpr ⟨in_g 1542 rfl rfl, List.forall_mem_cons.mpr ⟨in_g 1546 rfl rfl, List.forall_mem_cons.mpr ⟨in_g 1550 rfl rfl, List.forall_mem_cons.mpr ⟨in_g 1554 rfl rfl, List.forall_mem_cons.mpr ⟨in_g 1558 rfl rfl, List.forall_mem_cons.mpr ⟨in_g 1562 rfl rfl, List.forall_mem_cons.mpr ⟨in_g 1566 rfl rfl, List.forall_mem_cons.mpr ⟨in_g 1570 rfl rfl, List.forall_mem_cons.mpr ⟨in_g 1574 rfl rfl, List.forall_mem_cons.mpr ⟨in_g 1578 rfl rfl, fun _ h => by (cases h)⟩⟩⟩⟩⟩⟩⟩⟩⟩⟩⟩⟩⟩⟩⟩⟩
set_option maxRecDepth 100000 in
theorem MD_ok16 : ∀ d ∈ MD_16, mWd d ∈ goods := List.forall_mem_cons.mpr ⟨in_g 1582 rfl rfl, List.forall_mem_cons.mpr ⟨in_g 1587 rfl rfl, List.forall_mem_cons.mpr ⟨in_g 1591 rfl rfl, List.forall_mem_cons.mpr ⟨in_g 1595 rfl rfl, List.forall_mem_cons.mpr ⟨in_g 1599 rfl rfl, List.forall_mem_cons.mpr ⟨in_g 1602 rfl rfl, List.forall_mem_cons.mpr ⟨in_g 1607 rfl rfl, List.forall_mem_cons.mpr ⟨in_g 1608 rfl rfl, List.forall_mem_cons.mpr ⟨in_g 1612 rfl rfl, List.forall_mem_cons.mpr ⟨in_g 1615 rfl rfl, List.forall_mem_cons.mpr ⟨in_g 1619 rfl rfl, List.forall_mem_cons.mpr ⟨in_g 1623 rfl rfl, List.forall_mem_cons.mpr ⟨in_g 1627 rfl rfl, List.forall_mem_cons.mpr ⟨in_g 1631 rfl rfl, List.forall_mem_cons.mpr ⟨in_g 1635 rfl rfl, List.forall_mem_cons.mpr ⟨in_g 1638 rfl rfl, fun _ h => by (cases h)⟩⟩⟩⟩⟩⟩⟩⟩⟩⟩⟩⟩⟩⟩⟩⟩
set_option maxRecDepth 100000 in
theorem MD_ok17 : ∀ d ∈ MD_17, mWd d ∈ goods := List.forall_mem_cons.mpr ⟨in_g 1642 rfl rfl, List.forall_mem_cons.mpr ⟨in_g 1646 rfl rfl, List.forall_mem_cons.mpr ⟨in_g 1650 rfl rfl, List.forall_mem_cons.mpr ⟨in_g 1653 rfl rfl, List.forall_mem_cons.mpr ⟨in_g 1657 rfl rfl, List.forall_mem_cons.mpr ⟨in_g 1661 rfl rfl, List.forall_mem_cons.mpr ⟨in_g 1665 rfl rfl, List.forall_mem_cons.mpr ⟨in_g 1669 rfl rfl, List.forall_mem_cons.mpr ⟨in_g 1673 rfl rfl, List.forall_mem_cons.mpr ⟨in_g 1677 rfl rfl, List.forall_mem_cons.mpr ⟨in_g 1681 rfl rfl, List.forall_mem_cons.mpr ⟨in_g 1685 rfl rfl, List.forall_mem_cons.mpr ⟨in_g 1689 rfl rfl, List.forall_mem_cons.mpr ⟨in_g 1693 rfl rfl, List.forall_mem_cons.mpr ⟨in_g 1696 rfl rfl, List.forall_mem_cons.mpr ⟨in_g 1700 rfl rfl, fun _ h => by (cases h)⟩⟩⟩⟩⟩⟩⟩⟩⟩⟩⟩⟩⟩⟩⟩⟩
set_option maxRecDepth 100000 in
theorem MD_ok18 : ∀ d ∈ MD_18, mWd d ∈ goods := List.forall_mem_cons.mpr ⟨in_g 1703 rfl rfl, List.forall_mem_cons.mpr ⟨in_g 1704 rfl rfl, List.forall_mem_cons.mpr ⟨in_g 1708 rfl rfl, List.forall_mem_cons.mpr ⟨in_g 1712 rfl rfl, List.forall_mem_cons.mpr ⟨in_g 1716 rfl rfl, List.forall_mem_cons.mpr ⟨in_g 1719 rfl rfl, List.forall_mem_cons.mpr ⟨in_g 1723 rfl rfl, List.forall_mem_cons.mpr ⟨in_g 1728 rfl rfl, List.forall_mem_cons.mpr ⟨in_g 1732 rfl rfl, List.forall_mem_cons.mpr ⟨in_g 1736 rfl rfl, List.forall_mem_cons.mpr ⟨in_g 1740 rfl rfl, List.forall_mem_cons.mpr ⟨in_g 1744 rfl rfl, List.forall_mem_cons.mpr ⟨in_g 1748 rfl rfl, List.forall_mem_cons.mpr ⟨in_g 1751 rfl rfl, List.forall_mem_cons.mpr ⟨in_g 1755 rfl rfl, List.forall_mem_cons.mpr ⟨in_g 1759 rfl rfl, fun _ h => by (cases h)⟩⟩⟩⟩⟩⟩⟩⟩⟩⟩⟩⟩⟩⟩⟩⟩
set_option maxRecDepth 100000 in
theorem MD_ok19 : ∀ d ∈ MD_19, mWd d ∈ goods := List.forall_mem_cons.mpr ⟨in_g 1763 rfl rfl, List.forall_mem_cons.mpr ⟨in_g 1767 rfl rfl, fun _ h => by (cases h)⟩⟩
theorem MD_all : ∀ ch ∈ MDT, ∀ d ∈ ch, mWd d ∈ goods := List.forall_mem_cons.mpr ⟨MD_ok0, List.forall_mem_cons.mpr ⟨MD_ok1, List.forall_mem_cons.mpr ⟨MD_ok2, List.forall_mem_cons.mpr ⟨MD_ok3, List.forall_mem_cons.mpr ⟨MD_ok4, List.forall_mem_cons.mpr ⟨MD_ok5, List.forall_mem_cons.mpr ⟨MD_ok6, List.forall_mem_cons.mpr ⟨MD_ok7, List.forall_mem_cons.mpr ⟨MD_ok8, List.forall_mem_cons.mpr ⟨MD_ok9, List.forall_mem_cons.mpr ⟨MD_ok10, List.forall_mem_cons.mpr ⟨MD_ok11, List.forall_mem_cons.mpr ⟨MD_ok12, List.forall_mem_cons.mpr ⟨MD_ok13, List.forall_mem_cons.mpr ⟨MD_ok14, List.forall_mem_cons.mpr ⟨MD_ok15, List.forall_mem_cons.mpr ⟨MD_ok16, List.forall_mem_cons.mpr ⟨MD_ok17, List.forall_mem_cons.mpr ⟨MD_ok18, List.forall_mem_cons.mpr ⟨MD_ok19, fun _ h => by (cases h)⟩⟩⟩⟩⟩⟩⟩⟩⟩⟩⟩⟩⟩⟩⟩⟩⟩⟩⟩⟩
def MN_0 : List (Nat × Nat × Nat) := [(8, 48, 21), (8, 55, 0), (8, 66, 38), (4, 30, 53), (8, 67, 47), (11, 35, 108), (11, 42, 9), (1, 17, 53), (1, 24, 38), (11, 49, 97), (11, 56, 47), (11, 63, 29), (11, 71, 73), (7, 39, 166), (4, 62, 172), (8, 80, 166)]
def MN_1 : List (Nat × Nat × Nat) := [(9, 102, 166), (6, 89, 172), (2, 24, 169)]
def MNT : List (List (Nat × Nat × Nat)) := [MN_0, MN_1]
set_option maxRecDepth 100000 in
theorem MN_ok0 : ∀ d ∈ MN_0, mNd d ∈ lw_tbl := List.forall_mem_cons.mpr ⟨ndA_in (h := 122) rfl, List.forall_mem_cons.mpr ⟨ndA_in (h := 143) rfl, List.forall_mem_cons.mpr ⟨ndA_in (h := 175) rfl, List.forall_mem_cons.mpr ⟨ndA_in (h := 181) rfl, List.forall_mem_cons.mpr ⟨ndA_in (h := 238) rfl, List.forall_mem_cons.mpr ⟨ndA_in (h := 310) rfl, List.forall_mem_cons.mpr ⟨ndA_in (h := 343) rfl, List.forall_mem_cons.mpr ⟨ndA_in (h := 348) rfl, List.forall_mem_cons.mpr ⟨ndA_in (h := 350) rfl, List.forall_mem_cons.mpr ⟨ndA_in (h := 405) rfl, List.forall_mem_cons.mpr ⟨ndA_in (h := 423) rfl, List.forall_mem_cons.mpr ⟨ndA_in (h := 426) rfl, List.forall_mem_cons.mpr ⟨ndA_in (h := 443) rfl, List.forall_mem_cons.mpr ⟨ndA_in (h := 528) rfl, List.forall_mem_cons.mpr ⟨ndA_in (h := 602) rfl, List.forall_mem_cons.mpr ⟨ndA_in (h := 639) rfl, fun _ h => by (cases h)⟩⟩⟩⟩⟩⟩⟩⟩⟩⟩⟩⟩⟩⟩⟩⟩
set_option maxRecDepth 100000 in
theorem MN_ok1 : ∀ d ∈ MN_1, mNd d ∈ lw_tbl := List.forall_mem_cons.mpr ⟨ndA_in (h := 688) rfl, List.forall_mem_cons.mpr ⟨ndA_in (h := 960) rfl, List.forall_mem_cons.mpr ⟨ndA_in (h := 1016) rfl, fun _ h => by (cases h)⟩⟩⟩
theorem MN_all : ∀ ch ∈ MNT, ∀ d ∈ ch, mNd d ∈ lw_tbl := List.forall_mem_cons.mpr ⟨MN_ok0, List.forall_mem_cons.mpr ⟨MN_ok1, fun _ h => by (cases h)⟩⟩
def CD_0 : List (Nat × Nat × Int) := [(8, 27, 99999), (11, 402, (-1000000)), (7, 45, 99999), (11, 292, 99999), (11, 341, 2000000000), (17, 265, 1431655765), (17, 266, 858993459), (17, 267, 252645135), (12, 19, 99999), (12, 89, (-1000001)), (12, 80, (-1000000)), (12, 94, (-1000002)), (12, 95, (-1000004)), (12, 115, (-1000005)), (12, 127, (-1000003)), (12, 346, (-1000006))]
def CDT : List (List (Nat × Nat × Int)) := [CD_0]
set_option maxRecDepth 100000 in
theorem CD_ok0 : ∀ d ∈ CD_0, cWd d ∈ goods := List.forall_mem_cons.mpr ⟨in_g 119 rfl rfl, List.forall_mem_cons.mpr ⟨in_g 511 rfl rfl, List.forall_mem_cons.mpr ⟨in_g 617 rfl rfl, List.forall_mem_cons.mpr ⟨in_g 1021 rfl rfl, List.forall_mem_cons.mpr ⟨in_g 1103 rfl rfl, List.forall_mem_cons.mpr ⟨in_g 1115 rfl rfl, List.forall_mem_cons.mpr ⟨in_g 1116 rfl rfl, List.forall_mem_cons.mpr ⟨in_g 1117 rfl rfl, List.forall_mem_cons.mpr ⟨in_g 1264 rfl rfl, List.forall_mem_cons.mpr ⟨in_g 1398 rfl rfl, List.forall_mem_cons.mpr ⟨in_g 1403 rfl rfl, List.forall_mem_cons.mpr ⟨in_g 1404 rfl rfl, List.forall_mem_cons.mpr ⟨in_g 1405 rfl rfl, List.forall_mem_cons.mpr ⟨in_g 1437 rfl rfl, List.forall_mem_cons.mpr ⟨in_g 1455 rfl rfl, List.forall_mem_cons.mpr ⟨in_g 1727 rfl rfl, fun _ h => by (cases h)⟩⟩⟩⟩⟩⟩⟩⟩⟩⟩⟩⟩⟩⟩⟩⟩
theorem CD_all : ∀ ch ∈ CDT, ∀ d ∈ ch, cWd d ∈ goods := List.forall_mem_cons.mpr ⟨CD_ok0, fun _ h => by (cases h)⟩
def CL_0 : List (Nat × Nat × Int) := [(6, 58, 100), (6, 79, 2000000000), (3, 30, 100), (3, 36, 10), (2, 36, 2000000000), (12, 137, 255), (12, 255, 100), (12, 264, 2000000000), (12, 291, 10), (13, 44, 4294967295)]
def CLT : List (List (Nat × Nat × Int)) := [CL_0]
set_option maxRecDepth 100000 in
theorem CL_ok0 : ∀ d ∈ CL_0, lWd d ∈ goods := List.forall_mem_cons.mpr ⟨in_g 913 rfl rfl, List.forall_mem_cons.mpr ⟨in_g 914 rfl rfl, List.forall_mem_cons.mpr ⟨in_g 986 rfl rfl, List.forall_mem_cons.mpr ⟨in_g 1000 rfl rfl, List.forall_mem_cons.mpr ⟨in_g 1030 rfl rfl, List.forall_mem_cons.mpr ⟨in_g 1480 rfl rfl, List.forall_mem_cons.mpr ⟨in_g 1586 rfl rfl, List.forall_mem_cons.mpr ⟨in_g 1606 rfl rfl, List.forall_mem_cons.mpr ⟨in_g 1641 rfl rfl, List.forall_mem_cons.mpr ⟨in_g 1771 rfl rfl, fun _ h => by (cases h)⟩⟩⟩⟩⟩⟩⟩⟩⟩⟩
theorem CL_all : ∀ ch ∈ CLT, ∀ d ∈ ch, lWd d ∈ goods := List.forall_mem_cons.mpr ⟨CL_ok0, fun _ h => by (cases h)⟩
def LD_0 : List (Nat × Nat × Nat) := [(13, 7, 11), (11, 7, 8), (8, 9, 4), (8, 9, 204), (8, 21, 5), (8, 21, 205), (8, 46, 2), (8, 53, 0), (4, 28, 6), (11, 27, 7), (11, 27, 207), (11, 33, 10), (11, 40, 1), (1, 15, 6), (1, 22, 4), (1, 22, 204)]
def LD_1 : List (Nat × Nat × Nat) := [(11, 47, 9), (11, 54, 5), (11, 54, 205), (11, 61, 3), (13, 10, 12), (12, 23, 299)]
def LDT : List (List (Nat × Nat × Nat)) := [LD_0, LD_1]
set_option maxRecDepth 100000 in
theorem LD_ok0 : ∀ d ∈ LD_0, kWd d ∈ goods := List.forall_mem_cons.mpr ⟨in_g 101 rfl rfl, List.forall_mem_cons.mpr ⟨in_g 109 rfl rfl, List.forall_mem_cons.mpr ⟨in_g 115 rfl rfl, List.forall_mem_cons.mpr ⟨in_g 115 rfl rfl, List.forall_mem_cons.mpr ⟨in_g 117 rfl rfl, List.forall_mem_cons.mpr ⟨in_g 117 rfl rfl, List.forall_mem_cons.mpr ⟨in_g 120 rfl rfl, List.forall_mem_cons.mpr ⟨in_g 141 rfl rfl, List.forall_mem_cons.mpr ⟨in_g 179 rfl rfl, List.forall_mem_cons.mpr ⟨in_g 306 rfl rfl, List.forall_mem_cons.mpr ⟨in_g 306 rfl rfl, List.forall_mem_cons.mpr ⟨in_g 308 rfl rfl, List.forall_mem_cons.mpr ⟨in_g 341 rfl rfl, List.forall_mem_cons.mpr ⟨in_g 347 rfl rfl, List.forall_mem_cons.mpr ⟨in_g 349 rfl rfl, List.forall_mem_cons.mpr ⟨in_g 349 rfl rfl, fun _ h => by (cases h)⟩⟩⟩⟩⟩⟩⟩⟩⟩⟩⟩⟩⟩⟩⟩⟩
set_option maxRecDepth 100000 in
theorem LD_ok1 : ∀ d ∈ LD_1, kWd d ∈ goods := List.forall_mem_cons.mpr ⟨in_g 403 rfl rfl, List.forall_mem_cons.mpr ⟨in_g 422 rfl rfl, List.forall_mem_cons.mpr ⟨in_g 422 rfl rfl, List.forall_mem_cons.mpr ⟨in_g 424 rfl rfl, List.forall_mem_cons.mpr ⟨in_g 1258 rfl rfl, List.forall_mem_cons.mpr ⟨in_g 1265 rfl rfl, fun _ h => by (cases h)⟩⟩⟩⟩⟩⟩
theorem LD_all : ∀ ch ∈ LDT, ∀ d ∈ ch, kWd d ∈ goods := List.forall_mem_cons.mpr ⟨LD_ok0, List.forall_mem_cons.mpr ⟨LD_ok1, fun _ h => by (cases h)⟩⟩
def SP_0 : List (Nat × Nat × Nat) := [(4, 38, 1), (14, 38, 3), (14, 1053, 4), (10, 64, 2), (14, 9, 5), (14, 15, 6), (11, 1, 8), (8, 3, 8), (2, 3, 8), (0, 3, 8), (4, 3, 8), (6, 3, 8), (5, 3, 8), (10, 3, 8), (1, 3, 8), (9, 3, 8)]
def SP_1 : List (Nat × Nat × Nat) := [(3, 3, 8), (7, 3, 8), (5, 29, 7), (6, 93, 7), (10, 46, 7), (11, 374, 7), (4, 66, 7), (8, 105, 7), (2, 48, 7), (0, 54, 7), (12, 3, 8)]
def SPT : List (List (Nat × Nat × Nat)) := [SP_0, SP_1]
set_option maxRecDepth 100000 in
theorem SP_ok0 : ∀ d ∈ SP_0, sWd d ∈ goods := List.forall_mem_cons.mpr ⟨in_g 581 rfl rfl, List.forall_mem_cons.mpr ⟨in_g 706 rfl rfl, List.forall_mem_cons.mpr ⟨in_g 722 rfl rfl, List.forall_mem_cons.mpr ⟨in_g 1139 rfl rfl, List.forall_mem_cons.mpr ⟨in_g 1772 rfl rfl, List.forall_mem_cons.mpr ⟨in_g 1773 rfl rfl, List.forall_mem_cons.mpr ⟨in_g 106 rfl rfl, List.forall_mem_cons.mpr ⟨in_g 114 rfl rfl, List.forall_mem_cons.mpr ⟨in_g 125 rfl rfl, List.forall_mem_cons.mpr ⟨in_g 146 rfl rfl, List.forall_mem_cons.mpr ⟨in_g 178 rfl rfl, List.forall_mem_cons.mpr ⟨in_g 184 rfl rfl, List.forall_mem_cons.mpr ⟨in_g 241 rfl rfl, List.forall_mem_cons.mpr ⟨in_g 313 rfl rfl, List.forall_mem_cons.mpr ⟨in_g 346 rfl rfl, List.forall_mem_cons.mpr ⟨in_g 408 rfl rfl, fun _ h => by (cases h)⟩⟩⟩⟩⟩⟩⟩⟩⟩⟩⟩⟩⟩⟩⟩⟩
set_option maxRecDepth 100000 in
theorem SP_ok1 : ∀ d ∈ SP_1, sWd d ∈ goods := List.forall_mem_cons.mpr ⟨in_g 429 rfl rfl, List.forall_mem_cons.mpr ⟨in_g 446 rfl rfl, List.forall_mem_cons.mpr ⟨in_g 777 rfl rfl, List.forall_mem_cons.mpr ⟨in_g 849 rfl rfl, List.forall_mem_cons.mpr ⟨in_g 1150 rfl rfl, List.forall_mem_cons.mpr ⟨in_g 1182 rfl rfl, List.forall_mem_cons.mpr ⟨in_g 1195 rfl rfl, List.forall_mem_cons.mpr ⟨in_g 1198 rfl rfl, List.forall_mem_cons.mpr ⟨in_g 1203 rfl rfl, List.forall_mem_cons.mpr ⟨in_g 1208 rfl rfl, List.forall_mem_cons.mpr ⟨in_g 1263 rfl rfl, fun _ h => by (cases h)⟩⟩⟩⟩⟩⟩⟩⟩⟩⟩⟩
theorem SP_all : ∀ ch ∈ SPT, ∀ d ∈ ch, sWd d ∈ goods := List.forall_mem_cons.mpr ⟨SP_ok0, List.forall_mem_cons.mpr ⟨SP_ok1, fun _ h => by (cases h)⟩⟩
def stP (d : Nat × Nat × Nat) : Prop := (strO.getD d.2.2 ("", 0, "", 0)).1 = oC d.1 ∧ (strO.getD d.2.2 ("", 0, "", 0)).2.1 = d.2.1
def SD_0 : List (Nat × Nat × Nat) := [(9, 42, 0), (9, 71, 1), (9, 73, 2), (9, 75, 3), (9, 77, 4), (9, 79, 5), (9, 81, 6), (9, 52, 7), (9, 54, 8), (12, 25, 9), (12, 27, 10), (12, 29, 11), (12, 31, 12), (12, 33, 13), (12, 35, 14), (12, 180, 15)]
theorem SD_ok0 : ∀ d ∈ SD_0, stP d := List.forall_mem_cons.mpr ⟨⟨rfl, rfl⟩, List.forall_mem_cons.mpr ⟨⟨rfl, rfl⟩, List.forall_mem_cons.mpr ⟨⟨rfl, rfl⟩, List.forall_mem_cons.mpr ⟨⟨rfl, rfl⟩, List.forall_mem_cons.mpr ⟨⟨rfl, rfl⟩, List.forall_mem_cons.mpr ⟨⟨rfl, rfl⟩, List.forall_mem_cons.mpr ⟨⟨rfl, rfl⟩, List.forall_mem_cons.mpr ⟨⟨rfl, rfl⟩, List.forall_mem_cons.mpr ⟨⟨rfl, rfl⟩, List.forall_mem_cons.mpr ⟨⟨rfl, rfl⟩, List.forall_mem_cons.mpr ⟨⟨rfl, rfl⟩, List.forall_mem_cons.mpr ⟨⟨rfl, rfl⟩, List.forall_mem_cons.mpr ⟨⟨rfl, rfl⟩, List.forall_mem_cons.mpr ⟨⟨rfl, rfl⟩, List.forall_mem_cons.mpr ⟨⟨rfl, rfl⟩, List.forall_mem_cons.mpr ⟨⟨rfl, rfl⟩, fun _ h => by (cases h)⟩⟩⟩⟩⟩⟩⟩⟩⟩⟩⟩⟩⟩⟩⟩⟩
def SD_1 : List (Nat × Nat × Nat) := [(12, 182, 16), (12, 184, 17)]
theorem SD_ok1 : ∀ d ∈ SD_1, stP d := List.forall_mem_cons.mpr ⟨⟨rfl, rfl⟩, List.forall_mem_cons.mpr ⟨⟨rfl, rfl⟩, fun _ h => by (cases h)⟩⟩
def SDT : List (List (Nat × Nat × Nat)) := [SD_0, SD_1]
theorem SD_all : ∀ ch ∈ SDT, ∀ d ∈ ch, stP d := List.forall_mem_cons.mpr ⟨SD_ok0, List.forall_mem_cons.mpr ⟨SD_ok1, fun _ h => by (cases h)⟩⟩
abbrev NM : Nat := 281
theorem pd_0 : (parseMethodDescriptor "()B").map (fun d => d.parameters.length) = some 0 := by decide +kernel
theorem pd_1 : (parseMethodDescriptor "()I").map (fun d => d.parameters.length) = some 0 := by decide +kernel
theorem pd_2 : (parseMethodDescriptor "()LStrengthHouse$Piece;").map (fun d => d.parameters.length) = some 0 := by decide +kernel
theorem pd_3 : (parseMethodDescriptor "()V").map (fun d => d.parameters.length) = some 0 := by decide +kernel
theorem pd_4 : (parseMethodDescriptor "()Z").map (fun d => d.parameters.length) = some 0 := by decide +kernel
theorem pd_5 : (parseMethodDescriptor "(B)V").map (fun d => d.parameters.length) = some 1 := by decide +kernel
theorem pd_6 : (parseMethodDescriptor "(I)C").map (fun d => d.parameters.length) = some 1 := by decide +kernel
theorem pd_7 : (parseMethodDescriptor "(I)I").map (fun d => d.parameters.length) = some 1 := by decide +kernel
theorem pd_8 : (parseMethodDescriptor "(I)J").map (fun d => d.parameters.length) = some 1 := by decide +kernel
theorem pd_9 : (parseMethodDescriptor "(I)LStrengthHouse$Piece;").map (fun d => d.parameters.length) = some 1 := by decide +kernel
theorem pd_10 : (parseMethodDescriptor "(I)LStrengthHouse$Program;").map (fun d => d.parameters.length) = some 1 := by decide +kernel
theorem pd_11 : (parseMethodDescriptor "(I)LStrengthHouse$Sheet;").map (fun d => d.parameters.length) = some 1 := by decide +kernel
theorem pd_12 : (parseMethodDescriptor "(I)Ljava/lang/String;").map (fun d => d.parameters.length) = some 1 := by decide +kernel
theorem pd_13 : (parseMethodDescriptor "(I)V").map (fun d => d.parameters.length) = some 1 := by decide +kernel
theorem pd_14 : (parseMethodDescriptor "(I)Z").map (fun d => d.parameters.length) = some 1 := by decide +kernel
theorem pd_15 : (parseMethodDescriptor "(II)I").map (fun d => d.parameters.length) = some 2 := by decide +kernel
theorem pd_16 : (parseMethodDescriptor "(II)J").map (fun d => d.parameters.length) = some 2 := by decide +kernel
theorem pd_17 : (parseMethodDescriptor "(II)V").map (fun d => d.parameters.length) = some 2 := by decide +kernel
theorem pd_18 : (parseMethodDescriptor "(II)Z").map (fun d => d.parameters.length) = some 2 := by decide +kernel
theorem pd_19 : (parseMethodDescriptor "(III)I").map (fun d => d.parameters.length) = some 3 := by decide +kernel
theorem pd_20 : (parseMethodDescriptor "(III)V").map (fun d => d.parameters.length) = some 3 := by decide +kernel
theorem pd_21 : (parseMethodDescriptor "(III)Z").map (fun d => d.parameters.length) = some 3 := by decide +kernel
theorem pd_22 : (parseMethodDescriptor "(IIII)I").map (fun d => d.parameters.length) = some 4 := by decide +kernel
theorem pd_23 : (parseMethodDescriptor "(IIII)J").map (fun d => d.parameters.length) = some 4 := by decide +kernel
theorem pd_24 : (parseMethodDescriptor "(IIII)V").map (fun d => d.parameters.length) = some 4 := by decide +kernel
theorem pd_25 : (parseMethodDescriptor "(IIII)Z").map (fun d => d.parameters.length) = some 4 := by decide +kernel
theorem pd_26 : (parseMethodDescriptor "(IIIII)I").map (fun d => d.parameters.length) = some 5 := by decide +kernel
theorem pd_27 : (parseMethodDescriptor "(IIIII)V").map (fun d => d.parameters.length) = some 5 := by decide +kernel
theorem pd_28 : (parseMethodDescriptor "(IIILStrengthHouse$Order;)I").map (fun d => d.parameters.length) = some 4 := by decide +kernel
theorem pd_29 : (parseMethodDescriptor "(IILjava/util/function/BiFunction;)I").map (fun d => d.parameters.length) = some 3 := by decide +kernel
theorem pd_30 : (parseMethodDescriptor "(IIZ)V").map (fun d => d.parameters.length) = some 3 := by decide +kernel
theorem pd_31 : (parseMethodDescriptor "(IJ)J").map (fun d => d.parameters.length) = some 2 := by decide +kernel
theorem pd_32 : (parseMethodDescriptor "(ILStrengthHouse$Meters;)I").map (fun d => d.parameters.length) = some 2 := by decide +kernel
theorem pd_33 : (parseMethodDescriptor "(ILStrengthHouse$Readings;)I").map (fun d => d.parameters.length) = some 2 := by decide +kernel
theorem pd_34 : (parseMethodDescriptor "(JI)I").map (fun d => d.parameters.length) = some 2 := by decide +kernel
theorem pd_35 : (parseMethodDescriptor "(JJ)J").map (fun d => d.parameters.length) = some 2 := by decide +kernel
theorem pd_36 : (parseMethodDescriptor "(LStrengthHouse$Book;)V").map (fun d => d.parameters.length) = some 1 := by decide +kernel
theorem pd_37 : (parseMethodDescriptor "(LStrengthHouse$Machine;)V").map (fun d => d.parameters.length) = some 1 := by decide +kernel
theorem pd_38 : (parseMethodDescriptor "(LStrengthHouse$Meters;)V").map (fun d => d.parameters.length) = some 1 := by decide +kernel
theorem pd_39 : (parseMethodDescriptor "(LStrengthHouse$Piece;)V").map (fun d => d.parameters.length) = some 1 := by decide +kernel
theorem pd_40 : (parseMethodDescriptor "(LStrengthHouse$Piece;III)I").map (fun d => d.parameters.length) = some 4 := by decide +kernel
theorem pd_41 : (parseMethodDescriptor "(LStrengthHouse$Piece;LStrengthHouse$State;)V").map (fun d => d.parameters.length) = some 2 := by decide +kernel
theorem pd_42 : (parseMethodDescriptor "(LStrengthHouse$Program;)V").map (fun d => d.parameters.length) = some 1 := by decide +kernel
theorem pd_43 : (parseMethodDescriptor "(LStrengthHouse$Program;LStrengthHouse$Piece;LStrengthHouse$State;)V").map (fun d => d.parameters.length) = some 3 := by decide +kernel
theorem pd_44 : (parseMethodDescriptor "(LStrengthHouse$Program;Z)Z").map (fun d => d.parameters.length) = some 2 := by decide +kernel
theorem pd_45 : (parseMethodDescriptor "(LStrengthHouse$Readings;)V").map (fun d => d.parameters.length) = some 1 := by decide +kernel
theorem pd_46 : (parseMethodDescriptor "(LStrengthHouse$Sheet;II)I").map (fun d => d.parameters.length) = some 3 := by decide +kernel
theorem pd_47 : (parseMethodDescriptor "(LStrengthHouse$State;)V").map (fun d => d.parameters.length) = some 1 := by decide +kernel
theorem pd_48 : (parseMethodDescriptor "(Ljava/lang/String;)Z").map (fun d => d.parameters.length) = some 1 := by decide +kernel
theorem pd_49 : (parseMethodDescriptor "([BI)C").map (fun d => d.parameters.length) = some 2 := by decide +kernel
theorem pd_50 : (parseMethodDescriptor "([BILStrengthHouse$Program;)I").map (fun d => d.parameters.length) = some 3 := by decide +kernel
theorem pd_51 : (parseMethodDescriptor "([I)Z").map (fun d => d.parameters.length) = some 1 := by decide +kernel
theorem pd_52 : (parseMethodDescriptor "([I[I)V").map (fun d => d.parameters.length) = some 2 := by decide +kernel
def JB (j : Nat) : Prop := Jvm.Cond.code (mY j) (mB j) (mL j) (mR j) ∈ goods ∧ Jvm.Cond.initialized (mY j).cls ∈ goods ∧ oC (mO j) = (mY j).cls ∧ (parseMethodDescriptor (mY j).desc).map (fun d => d.parameters.length) = some (mN j)
def JF (j : Nat) : Prop := JB j ∧ ((mK j = 0 ∧ Jvm.Cond.static (mY j) ∈ goods) ∨ (mK j = 1 ∧ Jvm.Cond.instanceMethod (mY j) ∈ goods ∧ Jvm.Cond.selects (mY j).cls (mY j) (mY j) ∈ goods) ∨ (mK j = 2 ∧ Jvm.Cond.instanceMethod (mY j) ∈ goods ∧ (mY j).name = "<init>" ∧ mR j = none))
theorem jf_0 : JF 0 := ⟨⟨in_g 145 rfl rfl, in_g 84 rfl rfl, rfl, pd_3⟩, Or.inr (Or.inr ⟨rfl, in_g 144 rfl rfl, rfl, rfl⟩)⟩
theorem jf_1 : JF 1 := ⟨⟨in_g 1061 rfl rfl, in_g 84 rfl rfl, rfl, pd_14⟩, Or.inr (Or.inl ⟨rfl, in_g 1059 rfl rfl, in_g 1060 rfl rfl⟩)⟩
theorem jf_2 : JF 2 := ⟨⟨in_g 1048 rfl rfl, in_g 84 rfl rfl, rfl, pd_28⟩, Or.inr (Or.inl ⟨rfl, in_g 1046 rfl rfl, in_g 1047 rfl rfl⟩)⟩
theorem jf_3 : JF 3 := ⟨⟨in_g 1069 rfl rfl, in_g 84 rfl rfl, rfl, pd_18⟩, Or.inr (Or.inl ⟨rfl, in_g 1067 rfl rfl, in_g 1068 rfl rfl⟩)⟩
theorem jf_4 : JF 4 := ⟨⟨in_g 1074 rfl rfl, in_g 84 rfl rfl, rfl, pd_17⟩, Or.inr (Or.inl ⟨rfl, in_g 1072 rfl rfl, in_g 1073 rfl rfl⟩)⟩
theorem jf_5 : JF 5 := ⟨⟨in_g 1245 rfl rfl, in_g 84 rfl rfl, rfl, pd_1⟩, Or.inr (Or.inl ⟨rfl, in_g 1243 rfl rfl, in_g 1244 rfl rfl⟩)⟩
theorem jf_6 : JF 6 := ⟨⟨in_g 1082 rfl rfl, in_g 84 rfl rfl, rfl, pd_15⟩, Or.inr (Or.inl ⟨rfl, in_g 1080 rfl rfl, in_g 1081 rfl rfl⟩)⟩
theorem jf_7 : JF 7 := ⟨⟨in_g 1090 rfl rfl, in_g 84 rfl rfl, rfl, pd_32⟩, Or.inr (Or.inl ⟨rfl, in_g 1088 rfl rfl, in_g 1089 rfl rfl⟩)⟩
theorem jf_8 : JF 8 := ⟨⟨in_g 1207 rfl rfl, in_g 84 rfl rfl, rfl, pd_36⟩, Or.inr (Or.inl ⟨rfl, in_g 1205 rfl rfl, in_g 1206 rfl rfl⟩)⟩
theorem jf_9 : JF 9 := ⟨⟨in_g 345 rfl rfl, in_g 89 rfl rfl, rfl, pd_3⟩, Or.inr (Or.inr ⟨rfl, in_g 344 rfl rfl, rfl, rfl⟩)⟩
theorem jf_10 : JF 10 := ⟨⟨in_g 787 rfl rfl, in_g 89 rfl rfl, rfl, pd_43⟩, Or.inr (Or.inl ⟨rfl, in_g 785 rfl rfl, in_g 786 rfl rfl⟩)⟩
theorem jf_11 : JF 11 := ⟨⟨in_g 791 rfl rfl, in_g 89 rfl rfl, rfl, pd_41⟩, Or.inr (Or.inl ⟨rfl, in_g 790 rfl rfl, in_g 11 rfl rfl⟩)⟩
theorem jf_12 : JF 12 := ⟨⟨in_g 805 rfl rfl, in_g 89 rfl rfl, rfl, pd_17⟩, Or.inr (Or.inl ⟨rfl, in_g 804 rfl rfl, in_g 12 rfl rfl⟩)⟩
theorem jf_13 : JF 13 := ⟨⟨in_g 808 rfl rfl, in_g 89 rfl rfl, rfl, pd_15⟩, Or.inl ⟨rfl, in_g 807 rfl rfl⟩⟩
theorem jf_14 : JF 14 := ⟨⟨in_g 812 rfl rfl, in_g 89 rfl rfl, rfl, pd_18⟩, Or.inr (Or.inl ⟨rfl, in_g 811 rfl rfl, in_g 13 rfl rfl⟩)⟩
theorem jf_15 : JF 15 := ⟨⟨in_g 821 rfl rfl, in_g 89 rfl rfl, rfl, pd_13⟩, Or.inr (Or.inl ⟨rfl, in_g 820 rfl rfl, in_g 15 rfl rfl⟩)⟩
theorem jf_16 : JF 16 := ⟨⟨in_g 825 rfl rfl, in_g 89 rfl rfl, rfl, pd_7⟩, Or.inr (Or.inl ⟨rfl, in_g 824 rfl rfl, in_g 16 rfl rfl⟩)⟩
theorem jf_17 : JF 17 := ⟨⟨in_g 829 rfl rfl, in_g 89 rfl rfl, rfl, pd_4⟩, Or.inr (Or.inl ⟨rfl, in_g 828 rfl rfl, in_g 17 rfl rfl⟩)⟩
theorem jf_18 : JF 18 := ⟨⟨in_g 816 rfl rfl, in_g 89 rfl rfl, rfl, pd_1⟩, Or.inr (Or.inl ⟨rfl, in_g 815 rfl rfl, in_g 14 rfl rfl⟩)⟩
theorem jf_19 : JF 19 := ⟨⟨in_g 839 rfl rfl, in_g 89 rfl rfl, rfl, pd_3⟩, Or.inr (Or.inl ⟨rfl, in_g 838 rfl rfl, in_g 18 rfl rfl⟩)⟩
theorem jf_20 : JF 20 := ⟨⟨in_g 844 rfl rfl, in_g 89 rfl rfl, rfl, pd_13⟩, Or.inr (Or.inl ⟨rfl, in_g 843 rfl rfl, in_g 19 rfl rfl⟩)⟩
theorem jf_21 : JF 21 := ⟨⟨in_g 124 rfl rfl, in_g 83 rfl rfl, rfl, pd_3⟩, Or.inr (Or.inr ⟨rfl, in_g 123 rfl rfl, rfl, rfl⟩)⟩
theorem jf_22 : JF 22 := ⟨⟨in_g 1015 rfl rfl, in_g 83 rfl rfl, rfl, pd_27⟩, Or.inr (Or.inl ⟨rfl, in_g 1013 rfl rfl, in_g 1014 rfl rfl⟩)⟩
theorem jf_23 : JF 23 := ⟨⟨in_g 1035 rfl rfl, in_g 83 rfl rfl, rfl, pd_7⟩, Or.inr (Or.inl ⟨rfl, in_g 1034 rfl rfl, in_g 30 rfl rfl⟩)⟩
theorem jf_24 : JF 24 := ⟨⟨in_g 1025 rfl rfl, in_g 83 rfl rfl, rfl, pd_15⟩, Or.inr (Or.inl ⟨rfl, in_g 1023 rfl rfl, in_g 1024 rfl rfl⟩)⟩
theorem jf_25 : JF 25 := ⟨⟨in_g 1029 rfl rfl, in_g 83 rfl rfl, rfl, pd_31⟩, Or.inr (Or.inl ⟨rfl, in_g 1028 rfl rfl, in_g 29 rfl rfl⟩)⟩
theorem jf_26 : JF 26 := ⟨⟨in_g 1039 rfl rfl, in_g 83 rfl rfl, rfl, pd_7⟩, Or.inr (Or.inl ⟨rfl, in_g 1037 rfl rfl, in_g 1038 rfl rfl⟩)⟩
theorem jf_27 : JF 27 := ⟨⟨in_g 1094 rfl rfl, in_g 83 rfl rfl, rfl, pd_18⟩, Or.inr (Or.inl ⟨rfl, in_g 1092 rfl rfl, in_g 1093 rfl rfl⟩)⟩
theorem jf_28 : JF 28 := ⟨⟨in_g 1202 rfl rfl, in_g 83 rfl rfl, rfl, pd_38⟩, Or.inr (Or.inl ⟨rfl, in_g 1200 rfl rfl, in_g 1201 rfl rfl⟩)⟩
theorem jf_29 : JF 29 := ⟨⟨in_g 428 rfl rfl, in_g 91 rfl rfl, rfl, pd_3⟩, Or.inr (Or.inr ⟨rfl, in_g 427 rfl rfl, rfl, rfl⟩)⟩
theorem jf_30 : JF 30 := ⟨⟨in_g 955 rfl rfl, in_g 91 rfl rfl, rfl, pd_3⟩, Or.inr (Or.inl ⟨rfl, in_g 953 rfl rfl, in_g 954 rfl rfl⟩)⟩
theorem jf_31 : JF 31 := ⟨⟨in_g 964 rfl rfl, in_g 91 rfl rfl, rfl, pd_17⟩, Or.inr (Or.inl ⟨rfl, in_g 962 rfl rfl, in_g 963 rfl rfl⟩)⟩
theorem jf_32 : JF 32 := ⟨⟨in_g 968 rfl rfl, in_g 91 rfl rfl, rfl, pd_7⟩, Or.inr (Or.inl ⟨rfl, in_g 966 rfl rfl, in_g 967 rfl rfl⟩)⟩
theorem jf_33 : JF 33 := ⟨⟨in_g 1053 rfl rfl, in_g 91 rfl rfl, rfl, pd_1⟩, Or.inr (Or.inl ⟨rfl, in_g 1051 rfl rfl, in_g 1052 rfl rfl⟩)⟩
theorem jf_34 : JF 34 := ⟨⟨in_g 980 rfl rfl, in_g 91 rfl rfl, rfl, pd_7⟩, Or.inr (Or.inl ⟨rfl, in_g 978 rfl rfl, in_g 979 rfl rfl⟩)⟩
theorem jf_35 : JF 35 := ⟨⟨in_g 984 rfl rfl, in_g 91 rfl rfl, rfl, pd_21⟩, Or.inr (Or.inl ⟨rfl, in_g 983 rfl rfl, in_g 28 rfl rfl⟩)⟩
theorem jf_36 : JF 36 := ⟨⟨in_g 996 rfl rfl, in_g 91 rfl rfl, rfl, pd_19⟩, Or.inl ⟨rfl, in_g 995 rfl rfl⟩⟩
theorem jf_37 : JF 37 := ⟨⟨in_g 999 rfl rfl, in_g 91 rfl rfl, rfl, pd_16⟩, Or.inl ⟨rfl, in_g 998 rfl rfl⟩⟩
theorem jf_38 : JF 38 := ⟨⟨in_g 177 rfl rfl, in_g 85 rfl rfl, rfl, pd_3⟩, Or.inr (Or.inr ⟨rfl, in_g 176 rfl rfl, rfl, rfl⟩)⟩
theorem jf_39 : JF 39 := ⟨⟨in_g 536 rfl rfl, in_g 85 rfl rfl, rfl, pd_20⟩, Or.inr (Or.inl ⟨rfl, in_g 534 rfl rfl, in_g 535 rfl rfl⟩)⟩
theorem jf_40 : JF 40 := ⟨⟨in_g 545 rfl rfl, in_g 85 rfl rfl, rfl, pd_13⟩, Or.inr (Or.inl ⟨rfl, in_g 543 rfl rfl, in_g 544 rfl rfl⟩)⟩
theorem jf_41 : JF 41 := ⟨⟨in_g 580 rfl rfl, in_g 85 rfl rfl, rfl, pd_7⟩, Or.inl ⟨rfl, in_g 579 rfl rfl⟩⟩
theorem jf_42 : JF 42 := ⟨⟨in_g 577 rfl rfl, in_g 85 rfl rfl, rfl, pd_14⟩, Or.inr (Or.inl ⟨rfl, in_g 575 rfl rfl, in_g 576 rfl rfl⟩)⟩
theorem jf_43 : JF 43 := ⟨⟨in_g 597 rfl rfl, in_g 85 rfl rfl, rfl, pd_1⟩, Or.inr (Or.inl ⟨rfl, in_g 595 rfl rfl, in_g 596 rfl rfl⟩)⟩
theorem jf_44 : JF 44 := ⟨⟨in_g 593 rfl rfl, in_g 85 rfl rfl, rfl, pd_7⟩, Or.inr (Or.inl ⟨rfl, in_g 591 rfl rfl, in_g 592 rfl rfl⟩)⟩
theorem jf_45 : JF 45 := ⟨⟨in_g 601 rfl rfl, in_g 85 rfl rfl, rfl, pd_7⟩, Or.inr (Or.inl ⟨rfl, in_g 600 rfl rfl, in_g 2 rfl rfl⟩)⟩
theorem jf_46 : JF 46 := ⟨⟨in_g 1194 rfl rfl, in_g 85 rfl rfl, rfl, pd_39⟩, Or.inr (Or.inl ⟨rfl, in_g 1192 rfl rfl, in_g 1193 rfl rfl⟩)⟩
theorem jf_47 : JF 47 := ⟨⟨in_g 240 rfl rfl, in_g 87 rfl rfl, rfl, pd_3⟩, Or.inr (Or.inr ⟨rfl, in_g 239 rfl rfl, rfl, rfl⟩)⟩
theorem jf_48 : JF 48 := ⟨⟨in_g 675 rfl rfl, in_g 87 rfl rfl, rfl, pd_3⟩, Or.inr (Or.inl ⟨rfl, in_g 673 rfl rfl, in_g 674 rfl rfl⟩)⟩
theorem jf_49 : JF 49 := ⟨⟨in_g 766 rfl rfl, in_g 87 rfl rfl, rfl, pd_30⟩, Or.inr (Or.inl ⟨rfl, in_g 764 rfl rfl, in_g 765 rfl rfl⟩)⟩
theorem jf_50 : JF 50 := ⟨⟨in_g 797 rfl rfl, in_g 87 rfl rfl, rfl, pd_7⟩, Or.inr (Or.inl ⟨rfl, in_g 795 rfl rfl, in_g 796 rfl rfl⟩)⟩
theorem jf_51 : JF 51 := ⟨⟨in_g 801 rfl rfl, in_g 87 rfl rfl, rfl, pd_7⟩, Or.inr (Or.inl ⟨rfl, in_g 799 rfl rfl, in_g 800 rfl rfl⟩)⟩
theorem jf_52 : JF 52 := ⟨⟨in_g 776 rfl rfl, in_g 87 rfl rfl, rfl, pd_42⟩, Or.inr (Or.inl ⟨rfl, in_g 774 rfl rfl, in_g 775 rfl rfl⟩)⟩
theorem jf_53 : JF 53 := ⟨⟨in_g 183 rfl rfl, in_g 86 rfl rfl, rfl, pd_3⟩, Or.inr (Or.inr ⟨rfl, in_g 182 rfl rfl, rfl, rfl⟩)⟩
theorem jf_54 : JF 54 := ⟨⟨in_g 540 rfl rfl, in_g 86 rfl rfl, rfl, pd_3⟩, Or.inr (Or.inl ⟨rfl, in_g 538 rfl rfl, in_g 539 rfl rfl⟩)⟩
theorem jf_55 : JF 55 := ⟨⟨in_g 622 rfl rfl, in_g 86 rfl rfl, rfl, pd_17⟩, Or.inr (Or.inl ⟨rfl, in_g 620 rfl rfl, in_g 621 rfl rfl⟩)⟩
theorem jf_56 : JF 56 := ⟨⟨in_g 630 rfl rfl, in_g 86 rfl rfl, rfl, pd_7⟩, Or.inr (Or.inl ⟨rfl, in_g 628 rfl rfl, in_g 629 rfl rfl⟩)⟩
theorem jf_57 : JF 57 := ⟨⟨in_g 569 rfl rfl, in_g 86 rfl rfl, rfl, pd_7⟩, Or.inr (Or.inl ⟨rfl, in_g 567 rfl rfl, in_g 568 rfl rfl⟩)⟩
theorem jf_58 : JF 58 := ⟨⟨in_g 1237 rfl rfl, in_g 86 rfl rfl, rfl, pd_7⟩, Or.inr (Or.inl ⟨rfl, in_g 1235 rfl rfl, in_g 1236 rfl rfl⟩)⟩
theorem jf_59 : JF 59 := ⟨⟨in_g 565 rfl rfl, in_g 86 rfl rfl, rfl, pd_14⟩, Or.inr (Or.inl ⟨rfl, in_g 563 rfl rfl, in_g 564 rfl rfl⟩)⟩
theorem jf_60 : JF 60 := ⟨⟨in_g 561 rfl rfl, in_g 86 rfl rfl, rfl, pd_1⟩, Or.inr (Or.inl ⟨rfl, in_g 559 rfl rfl, in_g 560 rfl rfl⟩)⟩
theorem jf_61 : JF 61 := ⟨⟨in_g 869 rfl rfl, in_g 86 rfl rfl, rfl, pd_4⟩, Or.inr (Or.inl ⟨rfl, in_g 867 rfl rfl, in_g 868 rfl rfl⟩)⟩
theorem jf_62 : JF 62 := ⟨⟨in_g 873 rfl rfl, in_g 86 rfl rfl, rfl, pd_17⟩, Or.inr (Or.inl ⟨rfl, in_g 872 rfl rfl, in_g 20 rfl rfl⟩)⟩
theorem jf_63 : JF 63 := ⟨⟨in_g 878 rfl rfl, in_g 86 rfl rfl, rfl, pd_23⟩, Or.inr (Or.inl ⟨rfl, in_g 877 rfl rfl, in_g 21 rfl rfl⟩)⟩
theorem jf_64 : JF 64 := ⟨⟨in_g 886 rfl rfl, in_g 86 rfl rfl, rfl, pd_7⟩, Or.inr (Or.inl ⟨rfl, in_g 884 rfl rfl, in_g 885 rfl rfl⟩)⟩
theorem jf_65 : JF 65 := ⟨⟨in_g 903 rfl rfl, in_g 86 rfl rfl, rfl, pd_1⟩, Or.inr (Or.inl ⟨rfl, in_g 902 rfl rfl, in_g 23 rfl rfl⟩)⟩
theorem jf_66 : JF 66 := ⟨⟨in_g 912 rfl rfl, in_g 86 rfl rfl, rfl, pd_7⟩, Or.inr (Or.inl ⟨rfl, in_g 910 rfl rfl, in_g 911 rfl rfl⟩)⟩
theorem jf_67 : JF 67 := ⟨⟨in_g 918 rfl rfl, in_g 86 rfl rfl, rfl, pd_8⟩, Or.inr (Or.inl ⟨rfl, in_g 916 rfl rfl, in_g 917 rfl rfl⟩)⟩
theorem jf_68 : JF 68 := ⟨⟨in_g 922 rfl rfl, in_g 86 rfl rfl, rfl, pd_16⟩, Or.inr (Or.inl ⟨rfl, in_g 921 rfl rfl, in_g 25 rfl rfl⟩)⟩
theorem jf_69 : JF 69 := ⟨⟨in_g 899 rfl rfl, in_g 86 rfl rfl, rfl, pd_7⟩, Or.inr (Or.inl ⟨rfl, in_g 897 rfl rfl, in_g 898 rfl rfl⟩)⟩
theorem jf_70 : JF 70 := ⟨⟨in_g 908 rfl rfl, in_g 86 rfl rfl, rfl, pd_7⟩, Or.inr (Or.inl ⟨rfl, in_g 907 rfl rfl, in_g 24 rfl rfl⟩)⟩
theorem jf_71 : JF 71 := ⟨⟨in_g 959 rfl rfl, in_g 86 rfl rfl, rfl, pd_7⟩, Or.inr (Or.inl ⟨rfl, in_g 957 rfl rfl, in_g 958 rfl rfl⟩)⟩
theorem jf_72 : JF 72 := ⟨⟨in_g 848 rfl rfl, in_g 86 rfl rfl, rfl, pd_45⟩, Or.inr (Or.inl ⟨rfl, in_g 846 rfl rfl, in_g 847 rfl rfl⟩)⟩
theorem jf_73 : JF 73 := ⟨⟨in_g 445 rfl rfl, in_g 92 rfl rfl, rfl, pd_3⟩, Or.inr (Or.inr ⟨rfl, in_g 444 rfl rfl, rfl, rfl⟩)⟩
theorem jf_74 : JF 74 := ⟨⟨in_g 1166 rfl rfl, in_g 92 rfl rfl, rfl, pd_17⟩, Or.inr (Or.inl ⟨rfl, in_g 1164 rfl rfl, in_g 1165 rfl rfl⟩)⟩
theorem jf_75 : JF 75 := ⟨⟨in_g 515 rfl rfl, in_g 92 rfl rfl, rfl, pd_4⟩, Or.inr (Or.inl ⟨rfl, in_g 513 rfl rfl, in_g 514 rfl rfl⟩)⟩
theorem jf_76 : JF 76 := ⟨⟨in_g 523 rfl rfl, in_g 92 rfl rfl, rfl, pd_18⟩, Or.inr (Or.inl ⟨rfl, in_g 521 rfl rfl, in_g 522 rfl rfl⟩)⟩
theorem jf_77 : JF 77 := ⟨⟨in_g 527 rfl rfl, in_g 92 rfl rfl, rfl, pd_7⟩, Or.inr (Or.inl ⟨rfl, in_g 525 rfl rfl, in_g 526 rfl rfl⟩)⟩
theorem jf_78 : JF 78 := ⟨⟨in_g 1177 rfl rfl, in_g 92 rfl rfl, rfl, pd_17⟩, Or.inr (Or.inl ⟨rfl, in_g 1175 rfl rfl, in_g 1176 rfl rfl⟩)⟩
theorem jf_79 : JF 79 := ⟨⟨in_g 519 rfl rfl, in_g 92 rfl rfl, rfl, pd_21⟩, Or.inr (Or.inl ⟨rfl, in_g 517 rfl rfl, in_g 518 rfl rfl⟩)⟩
theorem jf_80 : JF 80 := ⟨⟨in_g 616 rfl rfl, in_g 92 rfl rfl, rfl, pd_14⟩, Or.inr (Or.inl ⟨rfl, in_g 614 rfl rfl, in_g 615 rfl rfl⟩)⟩
theorem jf_81 : JF 81 := ⟨⟨in_g 113 rfl rfl, in_g 82 rfl rfl, rfl, pd_3⟩, Or.inr (Or.inr ⟨rfl, in_g 112 rfl rfl, rfl, rfl⟩)⟩
theorem jf_82 : JF 82 := ⟨⟨in_g 549 rfl rfl, in_g 82 rfl rfl, rfl, pd_1⟩, Or.inr (Or.inl ⟨rfl, in_g 547 rfl rfl, in_g 548 rfl rfl⟩)⟩
theorem jf_83 : JF 83 := ⟨⟨in_g 557 rfl rfl, in_g 82 rfl rfl, rfl, pd_9⟩, Or.inr (Or.inl ⟨rfl, in_g 555 rfl rfl, in_g 556 rfl rfl⟩)⟩
theorem jf_84 : JF 84 := ⟨⟨in_g 532 rfl rfl, in_g 82 rfl rfl, rfl, pd_2⟩, Or.inr (Or.inl ⟨rfl, in_g 530 rfl rfl, in_g 531 rfl rfl⟩)⟩
theorem jf_85 : JF 85 := ⟨⟨in_g 663 rfl rfl, in_g 82 rfl rfl, rfl, pd_10⟩, Or.inr (Or.inl ⟨rfl, in_g 661 rfl rfl, in_g 662 rfl rfl⟩)⟩
theorem jf_86 : JF 86 := ⟨⟨in_g 1249 rfl rfl, in_g 82 rfl rfl, rfl, pd_1⟩, Or.inr (Or.inl ⟨rfl, in_g 1247 rfl rfl, in_g 1248 rfl rfl⟩)⟩
theorem jf_87 : JF 87 := ⟨⟨in_g 1253 rfl rfl, in_g 82 rfl rfl, rfl, pd_1⟩, Or.inr (Or.inl ⟨rfl, in_g 1251 rfl rfl, in_g 1252 rfl rfl⟩)⟩
theorem jf_88 : JF 88 := ⟨⟨in_g 638 rfl rfl, in_g 82 rfl rfl, rfl, pd_18⟩, Or.inl ⟨rfl, in_g 637 rfl rfl⟩⟩
theorem jf_89 : JF 89 := ⟨⟨in_g 643 rfl rfl, in_g 82 rfl rfl, rfl, pd_7⟩, Or.inr (Or.inl ⟨rfl, in_g 641 rfl rfl, in_g 642 rfl rfl⟩)⟩
theorem jf_90 : JF 90 := ⟨⟨in_g 647 rfl rfl, in_g 82 rfl rfl, rfl, pd_17⟩, Or.inr (Or.inl ⟨rfl, in_g 645 rfl rfl, in_g 646 rfl rfl⟩)⟩
theorem jf_91 : JF 91 := ⟨⟨in_g 655 rfl rfl, in_g 82 rfl rfl, rfl, pd_5⟩, Or.inr (Or.inl ⟨rfl, in_g 653 rfl rfl, in_g 654 rfl rfl⟩)⟩
theorem jf_92 : JF 92 := ⟨⟨in_g 853 rfl rfl, in_g 82 rfl rfl, rfl, pd_37⟩, Or.inr (Or.inl ⟨rfl, in_g 851 rfl rfl, in_g 852 rfl rfl⟩)⟩
theorem jf_93 : JF 93 := ⟨⟨in_g 861 rfl rfl, in_g 82 rfl rfl, rfl, pd_7⟩, Or.inr (Or.inl ⟨rfl, in_g 859 rfl rfl, in_g 860 rfl rfl⟩)⟩
theorem jf_94 : JF 94 := ⟨⟨in_g 1220 rfl rfl, in_g 82 rfl rfl, rfl, pd_14⟩, Or.inr (Or.inl ⟨rfl, in_g 1218 rfl rfl, in_g 1219 rfl rfl⟩)⟩
theorem jf_95 : JF 95 := ⟨⟨in_g 1233 rfl rfl, in_g 82 rfl rfl, rfl, pd_7⟩, Or.inr (Or.inl ⟨rfl, in_g 1231 rfl rfl, in_g 1232 rfl rfl⟩)⟩
theorem jf_96 : JF 96 := ⟨⟨in_g 1190 rfl rfl, in_g 82 rfl rfl, rfl, pd_47⟩, Or.inr (Or.inl ⟨rfl, in_g 1188 rfl rfl, in_g 1189 rfl rfl⟩)⟩
theorem jf_97 : JF 97 := ⟨⟨in_g 407 rfl rfl, in_g 90 rfl rfl, rfl, pd_3⟩, Or.inr (Or.inr ⟨rfl, in_g 406 rfl rfl, rfl, rfl⟩)⟩
theorem jf_98 : JF 98 := ⟨⟨in_g 667 rfl rfl, in_g 90 rfl rfl, rfl, pd_50⟩, Or.inr (Or.inl ⟨rfl, in_g 665 rfl rfl, in_g 666 rfl rfl⟩)⟩
theorem jf_99 : JF 99 := ⟨⟨in_g 749 rfl rfl, in_g 90 rfl rfl, rfl, pd_44⟩, Or.inr (Or.inl ⟨rfl, in_g 748 rfl rfl, in_g 8 rfl rfl⟩)⟩
theorem jf_100 : JF 100 := ⟨⟨in_g 753 rfl rfl, in_g 90 rfl rfl, rfl, pd_1⟩, Or.inr (Or.inl ⟨rfl, in_g 752 rfl rfl, in_g 9 rfl rfl⟩)⟩
theorem jf_101 : JF 101 := ⟨⟨in_g 756 rfl rfl, in_g 90 rfl rfl, rfl, pd_12⟩, Or.inl ⟨rfl, in_g 755 rfl rfl⟩⟩
theorem jf_102 : JF 102 := ⟨⟨in_g 770 rfl rfl, in_g 90 rfl rfl, rfl, pd_1⟩, Or.inr (Or.inl ⟨rfl, in_g 769 rfl rfl, in_g 10 rfl rfl⟩)⟩
theorem jf_103 : JF 103 := ⟨⟨in_g 697 rfl rfl, in_g 90 rfl rfl, rfl, pd_48⟩, Or.inr (Or.inl ⟨rfl, in_g 696 rfl rfl, in_g 7 rfl rfl⟩)⟩
theorem jf_104 : JF 104 := ⟨⟨in_g 679 rfl rfl, in_g 90 rfl rfl, rfl, pd_3⟩, Or.inr (Or.inl ⟨rfl, in_g 678 rfl rfl, in_g 3 rfl rfl⟩)⟩
theorem jf_105 : JF 105 := ⟨⟨in_g 683 rfl rfl, in_g 90 rfl rfl, rfl, pd_7⟩, Or.inr (Or.inl ⟨rfl, in_g 682 rfl rfl, in_g 4 rfl rfl⟩)⟩
theorem jf_106 : JF 106 := ⟨⟨in_g 687 rfl rfl, in_g 90 rfl rfl, rfl, pd_14⟩, Or.inr (Or.inl ⟨rfl, in_g 686 rfl rfl, in_g 5 rfl rfl⟩)⟩
theorem jf_107 : JF 107 := ⟨⟨in_g 692 rfl rfl, in_g 90 rfl rfl, rfl, pd_14⟩, Or.inr (Or.inl ⟨rfl, in_g 691 rfl rfl, in_g 6 rfl rfl⟩)⟩
theorem jf_108 : JF 108 := ⟨⟨in_g 312 rfl rfl, in_g 88 rfl rfl, rfl, pd_3⟩, Or.inr (Or.inr ⟨rfl, in_g 311 rfl rfl, rfl, rfl⟩)⟩
theorem jf_109 : JF 109 := ⟨⟨in_g 1131 rfl rfl, in_g 88 rfl rfl, rfl, pd_40⟩, Or.inr (Or.inl ⟨rfl, in_g 1129 rfl rfl, in_g 1130 rfl rfl⟩)⟩
theorem jf_110 : JF 110 := ⟨⟨in_g 1158 rfl rfl, in_g 88 rfl rfl, rfl, pd_7⟩, Or.inr (Or.inl ⟨rfl, in_g 1156 rfl rfl, in_g 1157 rfl rfl⟩)⟩
theorem jf_111 : JF 111 := ⟨⟨in_g 1135 rfl rfl, in_g 88 rfl rfl, rfl, pd_22⟩, Or.inr (Or.inl ⟨rfl, in_g 1134 rfl rfl, in_g 32 rfl rfl⟩)⟩
theorem jf_112 : JF 112 := ⟨⟨in_g 1138 rfl rfl, in_g 88 rfl rfl, rfl, pd_15⟩, Or.inl ⟨rfl, in_g 1137 rfl rfl⟩⟩
theorem jf_113 : JF 113 := ⟨⟨in_g 1145 rfl rfl, in_g 88 rfl rfl, rfl, pd_19⟩, Or.inr (Or.inl ⟨rfl, in_g 1144 rfl rfl, in_g 33 rfl rfl⟩)⟩
theorem jf_114 : JF 114 := ⟨⟨in_g 1149 rfl rfl, in_g 88 rfl rfl, rfl, pd_7⟩, Or.inr (Or.inl ⟨rfl, in_g 1148 rfl rfl, in_g 34 rfl rfl⟩)⟩
theorem jf_115 : JF 115 := ⟨⟨in_g 105 rfl rfl, in_g 81 rfl rfl, rfl, pd_3⟩, Or.inr (Or.inr ⟨rfl, in_g 104 rfl rfl, rfl, rfl⟩)⟩
theorem jf_116 : JF 116 := ⟨⟨in_g 496 rfl rfl, in_g 81 rfl rfl, rfl, pd_26⟩, Or.inr (Or.inl ⟨rfl, in_g 494 rfl rfl, in_g 495 rfl rfl⟩)⟩
theorem jf_117 : JF 117 := ⟨⟨in_g 553 rfl rfl, in_g 81 rfl rfl, rfl, pd_15⟩, Or.inr (Or.inl ⟨rfl, in_g 551 rfl rfl, in_g 552 rfl rfl⟩)⟩
theorem jf_118 : JF 118 := ⟨⟨in_g 573 rfl rfl, in_g 81 rfl rfl, rfl, pd_15⟩, Or.inr (Or.inl ⟨rfl, in_g 571 rfl rfl, in_g 572 rfl rfl⟩)⟩
theorem jf_119 : JF 119 := ⟨⟨in_g 586 rfl rfl, in_g 81 rfl rfl, rfl, pd_15⟩, Or.inr (Or.inl ⟨rfl, in_g 584 rfl rfl, in_g 585 rfl rfl⟩)⟩
theorem jf_120 : JF 120 := ⟨⟨in_g 612 rfl rfl, in_g 81 rfl rfl, rfl, pd_19⟩, Or.inr (Or.inl ⟨rfl, in_g 610 rfl rfl, in_g 611 rfl rfl⟩)⟩
theorem jf_121 : JF 121 := ⟨⟨in_g 626 rfl rfl, in_g 81 rfl rfl, rfl, pd_19⟩, Or.inr (Or.inl ⟨rfl, in_g 624 rfl rfl, in_g 625 rfl rfl⟩)⟩
theorem jf_122 : JF 122 := ⟨⟨in_g 635 rfl rfl, in_g 81 rfl rfl, rfl, pd_15⟩, Or.inr (Or.inl ⟨rfl, in_g 633 rfl rfl, in_g 634 rfl rfl⟩)⟩
theorem jf_123 : JF 123 := ⟨⟨in_g 651 rfl rfl, in_g 81 rfl rfl, rfl, pd_34⟩, Or.inr (Or.inl ⟨rfl, in_g 649 rfl rfl, in_g 650 rfl rfl⟩)⟩
theorem jf_124 : JF 124 := ⟨⟨in_g 659 rfl rfl, in_g 81 rfl rfl, rfl, pd_7⟩, Or.inr (Or.inl ⟨rfl, in_g 657 rfl rfl, in_g 658 rfl rfl⟩)⟩
theorem jf_125 : JF 125 := ⟨⟨in_g 783 rfl rfl, in_g 81 rfl rfl, rfl, pd_15⟩, Or.inr (Or.inl ⟨rfl, in_g 781 rfl rfl, in_g 782 rfl rfl⟩)⟩
theorem jf_126 : JF 126 := ⟨⟨in_g 857 rfl rfl, in_g 81 rfl rfl, rfl, pd_7⟩, Or.inr (Or.inl ⟨rfl, in_g 855 rfl rfl, in_g 856 rfl rfl⟩)⟩
theorem jf_127 : JF 127 := ⟨⟨in_g 865 rfl rfl, in_g 81 rfl rfl, rfl, pd_15⟩, Or.inr (Or.inl ⟨rfl, in_g 863 rfl rfl, in_g 864 rfl rfl⟩)⟩
theorem jf_128 : JF 128 := ⟨⟨in_g 882 rfl rfl, in_g 81 rfl rfl, rfl, pd_15⟩, Or.inr (Or.inl ⟨rfl, in_g 880 rfl rfl, in_g 881 rfl rfl⟩)⟩
theorem jf_129 : JF 129 := ⟨⟨in_g 895 rfl rfl, in_g 81 rfl rfl, rfl, pd_7⟩, Or.inr (Or.inl ⟨rfl, in_g 893 rfl rfl, in_g 894 rfl rfl⟩)⟩
theorem jf_130 : JF 130 := ⟨⟨in_g 930 rfl rfl, in_g 81 rfl rfl, rfl, pd_15⟩, Or.inr (Or.inl ⟨rfl, in_g 928 rfl rfl, in_g 929 rfl rfl⟩)⟩
theorem jf_131 : JF 131 := ⟨⟨in_g 935 rfl rfl, in_g 81 rfl rfl, rfl, pd_16⟩, Or.inr (Or.inl ⟨rfl, in_g 933 rfl rfl, in_g 934 rfl rfl⟩)⟩
theorem jf_132 : JF 132 := ⟨⟨in_g 940 rfl rfl, in_g 81 rfl rfl, rfl, pd_15⟩, Or.inr (Or.inl ⟨rfl, in_g 938 rfl rfl, in_g 939 rfl rfl⟩)⟩
theorem jf_133 : JF 133 := ⟨⟨in_g 947 rfl rfl, in_g 81 rfl rfl, rfl, pd_19⟩, Or.inr (Or.inl ⟨rfl, in_g 945 rfl rfl, in_g 946 rfl rfl⟩)⟩
theorem jf_134 : JF 134 := ⟨⟨in_g 972 rfl rfl, in_g 81 rfl rfl, rfl, pd_19⟩, Or.inr (Or.inl ⟨rfl, in_g 970 rfl rfl, in_g 971 rfl rfl⟩)⟩
theorem jf_135 : JF 135 := ⟨⟨in_g 990 rfl rfl, in_g 81 rfl rfl, rfl, pd_22⟩, Or.inr (Or.inl ⟨rfl, in_g 988 rfl rfl, in_g 989 rfl rfl⟩)⟩
theorem jf_136 : JF 136 := ⟨⟨in_g 1004 rfl rfl, in_g 81 rfl rfl, rfl, pd_15⟩, Or.inr (Or.inl ⟨rfl, in_g 1002 rfl rfl, in_g 1003 rfl rfl⟩)⟩
theorem jf_137 : JF 137 := ⟨⟨in_g 1008 rfl rfl, in_g 81 rfl rfl, rfl, pd_22⟩, Or.inr (Or.inl ⟨rfl, in_g 1006 rfl rfl, in_g 1007 rfl rfl⟩)⟩
theorem jf_138 : JF 138 := ⟨⟨in_g 1020 rfl rfl, in_g 81 rfl rfl, rfl, pd_19⟩, Or.inr (Or.inl ⟨rfl, in_g 1018 rfl rfl, in_g 1019 rfl rfl⟩)⟩
theorem jf_139 : JF 139 := ⟨⟨in_g 1044 rfl rfl, in_g 81 rfl rfl, rfl, pd_19⟩, Or.inr (Or.inl ⟨rfl, in_g 1042 rfl rfl, in_g 1043 rfl rfl⟩)⟩
theorem jf_140 : JF 140 := ⟨⟨in_g 1057 rfl rfl, in_g 81 rfl rfl, rfl, pd_15⟩, Or.inr (Or.inl ⟨rfl, in_g 1055 rfl rfl, in_g 1056 rfl rfl⟩)⟩
theorem jf_141 : JF 141 := ⟨⟨in_g 1065 rfl rfl, in_g 81 rfl rfl, rfl, pd_15⟩, Or.inr (Or.inl ⟨rfl, in_g 1063 rfl rfl, in_g 1064 rfl rfl⟩)⟩
theorem jf_142 : JF 142 := ⟨⟨in_g 1078 rfl rfl, in_g 81 rfl rfl, rfl, pd_15⟩, Or.inr (Or.inl ⟨rfl, in_g 1076 rfl rfl, in_g 1077 rfl rfl⟩)⟩
theorem jf_143 : JF 143 := ⟨⟨in_g 1086 rfl rfl, in_g 81 rfl rfl, rfl, pd_7⟩, Or.inr (Or.inl ⟨rfl, in_g 1084 rfl rfl, in_g 1085 rfl rfl⟩)⟩
theorem jf_144 : JF 144 := ⟨⟨in_g 1098 rfl rfl, in_g 81 rfl rfl, rfl, pd_19⟩, Or.inr (Or.inl ⟨rfl, in_g 1096 rfl rfl, in_g 1097 rfl rfl⟩)⟩
theorem jf_145 : JF 145 := ⟨⟨in_g 1111 rfl rfl, in_g 81 rfl rfl, rfl, pd_7⟩, Or.inr (Or.inl ⟨rfl, in_g 1109 rfl rfl, in_g 1110 rfl rfl⟩)⟩
theorem jf_146 : JF 146 := ⟨⟨in_g 1127 rfl rfl, in_g 81 rfl rfl, rfl, pd_19⟩, Or.inr (Or.inl ⟨rfl, in_g 1125 rfl rfl, in_g 1126 rfl rfl⟩)⟩
theorem jf_147 : JF 147 := ⟨⟨in_g 1154 rfl rfl, in_g 81 rfl rfl, rfl, pd_7⟩, Or.inr (Or.inl ⟨rfl, in_g 1152 rfl rfl, in_g 1153 rfl rfl⟩)⟩
theorem jf_148 : JF 148 := ⟨⟨in_g 1162 rfl rfl, in_g 81 rfl rfl, rfl, pd_19⟩, Or.inr (Or.inl ⟨rfl, in_g 1160 rfl rfl, in_g 1161 rfl rfl⟩)⟩
theorem jf_149 : JF 149 := ⟨⟨in_g 1172 rfl rfl, in_g 81 rfl rfl, rfl, pd_19⟩, Or.inr (Or.inl ⟨rfl, in_g 1170 rfl rfl, in_g 1171 rfl rfl⟩)⟩
theorem jf_150 : JF 150 := ⟨⟨in_g 1181 rfl rfl, in_g 81 rfl rfl, rfl, pd_26⟩, Or.inr (Or.inl ⟨rfl, in_g 1179 rfl rfl, in_g 1180 rfl rfl⟩)⟩
theorem jf_151 : JF 151 := ⟨⟨in_g 1186 rfl rfl, in_g 81 rfl rfl, rfl, pd_1⟩, Or.inr (Or.inl ⟨rfl, in_g 1184 rfl rfl, in_g 1185 rfl rfl⟩)⟩
theorem jf_152 : JF 152 := ⟨⟨in_g 1212 rfl rfl, in_g 81 rfl rfl, rfl, pd_1⟩, Or.inr (Or.inl ⟨rfl, in_g 1210 rfl rfl, in_g 1211 rfl rfl⟩)⟩
theorem jf_153 : JF 153 := ⟨⟨in_g 1216 rfl rfl, in_g 81 rfl rfl, rfl, pd_7⟩, Or.inr (Or.inl ⟨rfl, in_g 1214 rfl rfl, in_g 1215 rfl rfl⟩)⟩
theorem jf_154 : JF 154 := ⟨⟨in_g 1224 rfl rfl, in_g 81 rfl rfl, rfl, pd_15⟩, Or.inr (Or.inl ⟨rfl, in_g 1222 rfl rfl, in_g 1223 rfl rfl⟩)⟩
theorem jf_155 : JF 155 := ⟨⟨in_g 1241 rfl rfl, in_g 81 rfl rfl, rfl, pd_7⟩, Or.inr (Or.inl ⟨rfl, in_g 1239 rfl rfl, in_g 1240 rfl rfl⟩)⟩
theorem jf_156 : JF 156 := ⟨⟨in_g 1257 rfl rfl, in_g 81 rfl rfl, rfl, pd_7⟩, Or.inr (Or.inl ⟨rfl, in_g 1255 rfl rfl, in_g 1256 rfl rfl⟩)⟩
theorem jf_157 : JF 157 := ⟨⟨in_g 510 rfl rfl, in_g 81 rfl rfl, rfl, pd_7⟩, Or.inr (Or.inl ⟨rfl, in_g 509 rfl rfl, in_g 1 rfl rfl⟩)⟩
theorem jf_158 : JF 158 := ⟨⟨in_g 891 rfl rfl, in_g 81 rfl rfl, rfl, pd_7⟩, Or.inr (Or.inl ⟨rfl, in_g 890 rfl rfl, in_g 22 rfl rfl⟩)⟩
theorem jf_159 : JF 159 := ⟨⟨in_g 500 rfl rfl, in_g 81 rfl rfl, rfl, pd_11⟩, Or.inr (Or.inl ⟨rfl, in_g 499 rfl rfl, in_g 0 rfl rfl⟩)⟩
theorem jf_160 : JF 160 := ⟨⟨in_g 951 rfl rfl, in_g 81 rfl rfl, rfl, pd_17⟩, Or.inr (Or.inl ⟨rfl, in_g 950 rfl rfl, in_g 26 rfl rfl⟩)⟩
theorem jf_161 : JF 161 := ⟨⟨in_g 976 rfl rfl, in_g 81 rfl rfl, rfl, pd_17⟩, Or.inr (Or.inl ⟨rfl, in_g 975 rfl rfl, in_g 27 rfl rfl⟩)⟩
theorem jf_162 : JF 162 := ⟨⟨in_g 1102 rfl rfl, in_g 81 rfl rfl, rfl, pd_46⟩, Or.inr (Or.inl ⟨rfl, in_g 1101 rfl rfl, in_g 31 rfl rfl⟩)⟩
theorem jf_163 : JF 163 := ⟨⟨in_g 1106 rfl rfl, in_g 81 rfl rfl, rfl, pd_19⟩, Or.inl ⟨rfl, in_g 1105 rfl rfl⟩⟩
theorem jf_164 : JF 164 := ⟨⟨in_g 1120 rfl rfl, in_g 81 rfl rfl, rfl, pd_15⟩, Or.inl ⟨rfl, in_g 1119 rfl rfl⟩⟩
theorem jf_165 : JF 165 := ⟨⟨in_g 1228 rfl rfl, in_g 81 rfl rfl, rfl, pd_33⟩, Or.inr (Or.inl ⟨rfl, in_g 1227 rfl rfl, in_g 35 rfl rfl⟩)⟩
theorem jf_166 : JF 166 := ⟨⟨in_g 503 rfl rfl, in_g 81 rfl rfl, rfl, pd_21⟩, Or.inl ⟨rfl, in_g 502 rfl rfl⟩⟩
theorem jf_167 : JF 167 := ⟨⟨in_g 506 rfl rfl, in_g 81 rfl rfl, rfl, pd_14⟩, Or.inl ⟨rfl, in_g 505 rfl rfl⟩⟩
theorem jf_168 : JF 168 := ⟨⟨in_g 943 rfl rfl, in_g 81 rfl rfl, rfl, pd_14⟩, Or.inl ⟨rfl, in_g 942 rfl rfl⟩⟩
theorem jf_169 : JF 169 := ⟨⟨in_g 1011 rfl rfl, in_g 81 rfl rfl, rfl, pd_14⟩, Or.inl ⟨rfl, in_g 1010 rfl rfl⟩⟩
theorem jf_170 : JF 170 := ⟨⟨in_g 589 rfl rfl, in_g 81 rfl rfl, rfl, pd_14⟩, Or.inl ⟨rfl, in_g 588 rfl rfl⟩⟩
theorem jf_171 : JF 171 := ⟨⟨in_g 993 rfl rfl, in_g 81 rfl rfl, rfl, pd_14⟩, Or.inl ⟨rfl, in_g 992 rfl rfl⟩⟩
theorem jf_172 : JF 172 := ⟨⟨in_g 604 rfl rfl, in_g 81 rfl rfl, rfl, pd_22⟩, Or.inl ⟨rfl, in_g 603 rfl rfl⟩⟩
theorem jf_173 : JF 173 := ⟨⟨in_g 1262 rfl rfl, in_g 93 rfl rfl, rfl, pd_3⟩, Or.inr (Or.inr ⟨rfl, in_g 1261 rfl rfl, rfl, rfl⟩)⟩
theorem jf_174 : JF 174 := ⟨⟨in_g 1402 rfl rfl, in_g 93 rfl rfl, rfl, pd_7⟩, Or.inr (Or.inl ⟨rfl, in_g 1401 rfl rfl, in_g 36 rfl rfl⟩)⟩
theorem jf_175 : JF 175 := ⟨⟨in_g 1394 rfl rfl, in_g 93 rfl rfl, rfl, pd_21⟩, Or.inl ⟨rfl, in_g 1393 rfl rfl⟩⟩
theorem jf_176 : JF 176 := ⟨⟨in_g 1413 rfl rfl, in_g 93 rfl rfl, rfl, pd_18⟩, Or.inr (Or.inl ⟨rfl, in_g 1412 rfl rfl, in_g 37 rfl rfl⟩)⟩
theorem jf_177 : JF 177 := ⟨⟨in_g 1695 rfl rfl, in_g 93 rfl rfl, rfl, pd_18⟩, Or.inl ⟨rfl, in_g 1694 rfl rfl⟩⟩
theorem jf_178 : JF 178 := ⟨⟨in_g 1702 rfl rfl, in_g 93 rfl rfl, rfl, pd_7⟩, Or.inl ⟨rfl, in_g 1701 rfl rfl⟩⟩
theorem jf_179 : JF 179 := ⟨⟨in_g 1475 rfl rfl, in_g 93 rfl rfl, rfl, pd_15⟩, Or.inr (Or.inl ⟨rfl, in_g 1474 rfl rfl, in_g 46 rfl rfl⟩)⟩
theorem jf_180 : JF 180 := ⟨⟨in_g 1421 rfl rfl, in_g 93 rfl rfl, rfl, pd_15⟩, Or.inr (Or.inl ⟨rfl, in_g 1420 rfl rfl, in_g 39 rfl rfl⟩)⟩
theorem jf_181 : JF 181 := ⟨⟨in_g 1391 rfl rfl, in_g 93 rfl rfl, rfl, pd_26⟩, Or.inr (Or.inl ⟨rfl, in_g 1389 rfl rfl, in_g 1390 rfl rfl⟩)⟩
theorem jf_182 : JF 182 := ⟨⟨in_g 1417 rfl rfl, in_g 93 rfl rfl, rfl, pd_7⟩, Or.inr (Or.inl ⟨rfl, in_g 1416 rfl rfl, in_g 38 rfl rfl⟩)⟩
theorem jf_183 : JF 183 := ⟨⟨in_g 1467 rfl rfl, in_g 93 rfl rfl, rfl, pd_15⟩, Or.inr (Or.inl ⟨rfl, in_g 1466 rfl rfl, in_g 45 rfl rfl⟩)⟩
theorem jf_184 : JF 184 := ⟨⟨in_g 1429 rfl rfl, in_g 93 rfl rfl, rfl, pd_15⟩, Or.inr (Or.inl ⟨rfl, in_g 1428 rfl rfl, in_g 41 rfl rfl⟩)⟩
theorem jf_185 : JF 185 := ⟨⟨in_g 1425 rfl rfl, in_g 93 rfl rfl, rfl, pd_18⟩, Or.inr (Or.inl ⟨rfl, in_g 1424 rfl rfl, in_g 40 rfl rfl⟩)⟩
theorem jf_186 : JF 186 := ⟨⟨in_g 1409 rfl rfl, in_g 93 rfl rfl, rfl, pd_15⟩, Or.inr (Or.inl ⟨rfl, in_g 1407 rfl rfl, in_g 1408 rfl rfl⟩)⟩
theorem jf_187 : JF 187 := ⟨⟨in_g 1436 rfl rfl, in_g 93 rfl rfl, rfl, pd_7⟩, Or.inl ⟨rfl, in_g 1435 rfl rfl⟩⟩
theorem jf_188 : JF 188 := ⟨⟨in_g 1433 rfl rfl, in_g 93 rfl rfl, rfl, pd_15⟩, Or.inr (Or.inl ⟨rfl, in_g 1431 rfl rfl, in_g 1432 rfl rfl⟩)⟩
theorem jf_189 : JF 189 := ⟨⟨in_g 1449 rfl rfl, in_g 93 rfl rfl, rfl, pd_7⟩, Or.inr (Or.inl ⟨rfl, in_g 1448 rfl rfl, in_g 43 rfl rfl⟩)⟩
theorem jf_190 : JF 190 := ⟨⟨in_g 1445 rfl rfl, in_g 93 rfl rfl, rfl, pd_15⟩, Or.inr (Or.inl ⟨rfl, in_g 1444 rfl rfl, in_g 42 rfl rfl⟩)⟩
theorem jf_191 : JF 191 := ⟨⟨in_g 1441 rfl rfl, in_g 93 rfl rfl, rfl, pd_15⟩, Or.inr (Or.inl ⟨rfl, in_g 1439 rfl rfl, in_g 1440 rfl rfl⟩)⟩
theorem jf_192 : JF 192 := ⟨⟨in_g 1459 rfl rfl, in_g 93 rfl rfl, rfl, pd_24⟩, Or.inr (Or.inl ⟨rfl, in_g 1458 rfl rfl, in_g 44 rfl rfl⟩)⟩
theorem jf_193 : JF 193 := ⟨⟨in_g 1454 rfl rfl, in_g 93 rfl rfl, rfl, pd_19⟩, Or.inr (Or.inl ⟨rfl, in_g 1452 rfl rfl, in_g 1453 rfl rfl⟩)⟩
theorem jf_194 : JF 194 := ⟨⟨in_g 1463 rfl rfl, in_g 93 rfl rfl, rfl, pd_19⟩, Or.inr (Or.inl ⟨rfl, in_g 1461 rfl rfl, in_g 1462 rfl rfl⟩)⟩
theorem jf_195 : JF 195 := ⟨⟨in_g 1471 rfl rfl, in_g 93 rfl rfl, rfl, pd_15⟩, Or.inr (Or.inl ⟨rfl, in_g 1469 rfl rfl, in_g 1470 rfl rfl⟩)⟩
theorem jf_196 : JF 196 := ⟨⟨in_g 1479 rfl rfl, in_g 93 rfl rfl, rfl, pd_34⟩, Or.inr (Or.inl ⟨rfl, in_g 1477 rfl rfl, in_g 1478 rfl rfl⟩)⟩
theorem jf_197 : JF 197 := ⟨⟨in_g 1496 rfl rfl, in_g 93 rfl rfl, rfl, pd_21⟩, Or.inr (Or.inl ⟨rfl, in_g 1495 rfl rfl, in_g 49 rfl rfl⟩)⟩
theorem jf_198 : JF 198 := ⟨⟨in_g 1492 rfl rfl, in_g 93 rfl rfl, rfl, pd_3⟩, Or.inr (Or.inl ⟨rfl, in_g 1491 rfl rfl, in_g 48 rfl rfl⟩)⟩
theorem jf_199 : JF 199 := ⟨⟨in_g 1504 rfl rfl, in_g 93 rfl rfl, rfl, pd_48⟩, Or.inr (Or.inl ⟨rfl, in_g 1503 rfl rfl, in_g 51 rfl rfl⟩)⟩
theorem jf_200 : JF 200 := ⟨⟨in_g 1510 rfl rfl, in_g 93 rfl rfl, rfl, pd_1⟩, Or.inr (Or.inl ⟨rfl, in_g 1509 rfl rfl, in_g 52 rfl rfl⟩)⟩
theorem jf_201 : JF 201 := ⟨⟨in_g 1500 rfl rfl, in_g 93 rfl rfl, rfl, pd_3⟩, Or.inr (Or.inl ⟨rfl, in_g 1499 rfl rfl, in_g 50 rfl rfl⟩)⟩
theorem jf_202 : JF 202 := ⟨⟨in_g 1488 rfl rfl, in_g 93 rfl rfl, rfl, pd_14⟩, Or.inr (Or.inl ⟨rfl, in_g 1487 rfl rfl, in_g 47 rfl rfl⟩)⟩
theorem jf_203 : JF 203 := ⟨⟨in_g 1484 rfl rfl, in_g 93 rfl rfl, rfl, pd_7⟩, Or.inr (Or.inl ⟨rfl, in_g 1482 rfl rfl, in_g 1483 rfl rfl⟩)⟩
theorem jf_204 : JF 204 := ⟨⟨in_g 1521 rfl rfl, in_g 93 rfl rfl, rfl, pd_14⟩, Or.inr (Or.inl ⟨rfl, in_g 1520 rfl rfl, in_g 53 rfl rfl⟩)⟩
theorem jf_205 : JF 205 := ⟨⟨in_g 1537 rfl rfl, in_g 93 rfl rfl, rfl, pd_1⟩, Or.inr (Or.inl ⟨rfl, in_g 1536 rfl rfl, in_g 57 rfl rfl⟩)⟩
theorem jf_206 : JF 206 := ⟨⟨in_g 1545 rfl rfl, in_g 93 rfl rfl, rfl, pd_3⟩, Or.inr (Or.inl ⟨rfl, in_g 1544 rfl rfl, in_g 59 rfl rfl⟩)⟩
theorem jf_207 : JF 207 := ⟨⟨in_g 1533 rfl rfl, in_g 93 rfl rfl, rfl, pd_4⟩, Or.inr (Or.inl ⟨rfl, in_g 1532 rfl rfl, in_g 56 rfl rfl⟩)⟩
theorem jf_208 : JF 208 := ⟨⟨in_g 1541 rfl rfl, in_g 93 rfl rfl, rfl, pd_3⟩, Or.inr (Or.inl ⟨rfl, in_g 1540 rfl rfl, in_g 58 rfl rfl⟩)⟩
theorem jf_209 : JF 209 := ⟨⟨in_g 1529 rfl rfl, in_g 93 rfl rfl, rfl, pd_17⟩, Or.inr (Or.inl ⟨rfl, in_g 1528 rfl rfl, in_g 55 rfl rfl⟩)⟩
theorem jf_210 : JF 210 := ⟨⟨in_g 1525 rfl rfl, in_g 93 rfl rfl, rfl, pd_15⟩, Or.inr (Or.inl ⟨rfl, in_g 1524 rfl rfl, in_g 54 rfl rfl⟩)⟩
theorem jf_211 : JF 211 := ⟨⟨in_g 1517 rfl rfl, in_g 93 rfl rfl, rfl, pd_15⟩, Or.inr (Or.inl ⟨rfl, in_g 1515 rfl rfl, in_g 1516 rfl rfl⟩)⟩
theorem jf_212 : JF 212 := ⟨⟨in_g 1549 rfl rfl, in_g 93 rfl rfl, rfl, pd_7⟩, Or.inr (Or.inl ⟨rfl, in_g 1547 rfl rfl, in_g 1548 rfl rfl⟩)⟩
theorem jf_213 : JF 213 := ⟨⟨in_g 1561 rfl rfl, in_g 93 rfl rfl, rfl, pd_25⟩, Or.inr (Or.inl ⟨rfl, in_g 1560 rfl rfl, in_g 61 rfl rfl⟩)⟩
theorem jf_214 : JF 214 := ⟨⟨in_g 1557 rfl rfl, in_g 93 rfl rfl, rfl, pd_14⟩, Or.inr (Or.inl ⟨rfl, in_g 1556 rfl rfl, in_g 60 rfl rfl⟩)⟩
theorem jf_215 : JF 215 := ⟨⟨in_g 1553 rfl rfl, in_g 93 rfl rfl, rfl, pd_15⟩, Or.inr (Or.inl ⟨rfl, in_g 1551 rfl rfl, in_g 1552 rfl rfl⟩)⟩
theorem jf_216 : JF 216 := ⟨⟨in_g 1569 rfl rfl, in_g 93 rfl rfl, rfl, pd_15⟩, Or.inr (Or.inl ⟨rfl, in_g 1568 rfl rfl, in_g 62 rfl rfl⟩)⟩
theorem jf_217 : JF 217 := ⟨⟨in_g 1565 rfl rfl, in_g 93 rfl rfl, rfl, pd_15⟩, Or.inr (Or.inl ⟨rfl, in_g 1563 rfl rfl, in_g 1564 rfl rfl⟩)⟩
theorem jf_218 : JF 218 := ⟨⟨in_g 1577 rfl rfl, in_g 93 rfl rfl, rfl, pd_7⟩, Or.inr (Or.inl ⟨rfl, in_g 1576 rfl rfl, in_g 63 rfl rfl⟩)⟩
theorem jf_219 : JF 219 := ⟨⟨in_g 1573 rfl rfl, in_g 93 rfl rfl, rfl, pd_7⟩, Or.inr (Or.inl ⟨rfl, in_g 1571 rfl rfl, in_g 1572 rfl rfl⟩)⟩
theorem jf_220 : JF 220 := ⟨⟨in_g 1585 rfl rfl, in_g 93 rfl rfl, rfl, pd_15⟩, Or.inr (Or.inl ⟨rfl, in_g 1584 rfl rfl, in_g 64 rfl rfl⟩)⟩
theorem jf_221 : JF 221 := ⟨⟨in_g 1581 rfl rfl, in_g 93 rfl rfl, rfl, pd_15⟩, Or.inr (Or.inl ⟨rfl, in_g 1579 rfl rfl, in_g 1580 rfl rfl⟩)⟩
theorem jf_222 : JF 222 := ⟨⟨in_g 1594 rfl rfl, in_g 93 rfl rfl, rfl, pd_16⟩, Or.inr (Or.inl ⟨rfl, in_g 1593 rfl rfl, in_g 65 rfl rfl⟩)⟩
theorem jf_223 : JF 223 := ⟨⟨in_g 1590 rfl rfl, in_g 93 rfl rfl, rfl, pd_16⟩, Or.inr (Or.inl ⟨rfl, in_g 1588 rfl rfl, in_g 1589 rfl rfl⟩)⟩
theorem jf_224 : JF 224 := ⟨⟨in_g 1605 rfl rfl, in_g 93 rfl rfl, rfl, pd_15⟩, Or.inr (Or.inl ⟨rfl, in_g 1604 rfl rfl, in_g 66 rfl rfl⟩)⟩
theorem jf_225 : JF 225 := ⟨⟨in_g 1601 rfl rfl, in_g 93 rfl rfl, rfl, pd_14⟩, Or.inl ⟨rfl, in_g 1600 rfl rfl⟩⟩
theorem jf_226 : JF 226 := ⟨⟨in_g 1598 rfl rfl, in_g 93 rfl rfl, rfl, pd_15⟩, Or.inr (Or.inl ⟨rfl, in_g 1596 rfl rfl, in_g 1597 rfl rfl⟩)⟩
theorem jf_227 : JF 227 := ⟨⟨in_g 1622 rfl rfl, in_g 93 rfl rfl, rfl, pd_17⟩, Or.inr (Or.inl ⟨rfl, in_g 1621 rfl rfl, in_g 68 rfl rfl⟩)⟩
theorem jf_228 : JF 228 := ⟨⟨in_g 1618 rfl rfl, in_g 93 rfl rfl, rfl, pd_15⟩, Or.inr (Or.inl ⟨rfl, in_g 1617 rfl rfl, in_g 67 rfl rfl⟩)⟩
theorem jf_229 : JF 229 := ⟨⟨in_g 1614 rfl rfl, in_g 93 rfl rfl, rfl, pd_14⟩, Or.inl ⟨rfl, in_g 1613 rfl rfl⟩⟩
theorem jf_230 : JF 230 := ⟨⟨in_g 1611 rfl rfl, in_g 93 rfl rfl, rfl, pd_19⟩, Or.inr (Or.inl ⟨rfl, in_g 1609 rfl rfl, in_g 1610 rfl rfl⟩)⟩
theorem jf_231 : JF 231 := ⟨⟨in_g 1630 rfl rfl, in_g 93 rfl rfl, rfl, pd_17⟩, Or.inr (Or.inl ⟨rfl, in_g 1629 rfl rfl, in_g 69 rfl rfl⟩)⟩
theorem jf_232 : JF 232 := ⟨⟨in_g 1626 rfl rfl, in_g 93 rfl rfl, rfl, pd_19⟩, Or.inr (Or.inl ⟨rfl, in_g 1624 rfl rfl, in_g 1625 rfl rfl⟩)⟩
theorem jf_233 : JF 233 := ⟨⟨in_g 1640 rfl rfl, in_g 93 rfl rfl, rfl, pd_19⟩, Or.inl ⟨rfl, in_g 1639 rfl rfl⟩⟩
theorem jf_234 : JF 234 := ⟨⟨in_g 1637 rfl rfl, in_g 93 rfl rfl, rfl, pd_18⟩, Or.inl ⟨rfl, in_g 1636 rfl rfl⟩⟩
theorem jf_235 : JF 235 := ⟨⟨in_g 1634 rfl rfl, in_g 93 rfl rfl, rfl, pd_22⟩, Or.inr (Or.inl ⟨rfl, in_g 1632 rfl rfl, in_g 1633 rfl rfl⟩)⟩
theorem jf_236 : JF 236 := ⟨⟨in_g 1645 rfl rfl, in_g 93 rfl rfl, rfl, pd_15⟩, Or.inr (Or.inl ⟨rfl, in_g 1643 rfl rfl, in_g 1644 rfl rfl⟩)⟩
theorem jf_237 : JF 237 := ⟨⟨in_g 1652 rfl rfl, in_g 93 rfl rfl, rfl, pd_14⟩, Or.inl ⟨rfl, in_g 1651 rfl rfl⟩⟩
theorem jf_238 : JF 238 := ⟨⟨in_g 1660 rfl rfl, in_g 93 rfl rfl, rfl, pd_15⟩, Or.inr (Or.inl ⟨rfl, in_g 1659 rfl rfl, in_g 70 rfl rfl⟩)⟩
theorem jf_239 : JF 239 := ⟨⟨in_g 1649 rfl rfl, in_g 93 rfl rfl, rfl, pd_22⟩, Or.inr (Or.inl ⟨rfl, in_g 1647 rfl rfl, in_g 1648 rfl rfl⟩)⟩
theorem jf_240 : JF 240 := ⟨⟨in_g 1664 rfl rfl, in_g 93 rfl rfl, rfl, pd_15⟩, Or.inr (Or.inl ⟨rfl, in_g 1663 rfl rfl, in_g 71 rfl rfl⟩)⟩
theorem jf_241 : JF 241 := ⟨⟨in_g 1656 rfl rfl, in_g 93 rfl rfl, rfl, pd_19⟩, Or.inr (Or.inl ⟨rfl, in_g 1654 rfl rfl, in_g 1655 rfl rfl⟩)⟩
theorem jf_242 : JF 242 := ⟨⟨in_g 1676 rfl rfl, in_g 93 rfl rfl, rfl, pd_15⟩, Or.inr (Or.inl ⟨rfl, in_g 1675 rfl rfl, in_g 72 rfl rfl⟩)⟩
theorem jf_243 : JF 243 := ⟨⟨in_g 1668 rfl rfl, in_g 93 rfl rfl, rfl, pd_19⟩, Or.inr (Or.inl ⟨rfl, in_g 1666 rfl rfl, in_g 1667 rfl rfl⟩)⟩
theorem jf_244 : JF 244 := ⟨⟨in_g 1672 rfl rfl, in_g 93 rfl rfl, rfl, pd_15⟩, Or.inr (Or.inl ⟨rfl, in_g 1670 rfl rfl, in_g 1671 rfl rfl⟩)⟩
theorem jf_245 : JF 245 := ⟨⟨in_g 1680 rfl rfl, in_g 93 rfl rfl, rfl, pd_15⟩, Or.inr (Or.inl ⟨rfl, in_g 1678 rfl rfl, in_g 1679 rfl rfl⟩)⟩
theorem jf_246 : JF 246 := ⟨⟨in_g 1684 rfl rfl, in_g 93 rfl rfl, rfl, pd_15⟩, Or.inr (Or.inl ⟨rfl, in_g 1682 rfl rfl, in_g 1683 rfl rfl⟩)⟩
theorem jf_247 : JF 247 := ⟨⟨in_g 1688 rfl rfl, in_g 93 rfl rfl, rfl, pd_7⟩, Or.inr (Or.inl ⟨rfl, in_g 1686 rfl rfl, in_g 1687 rfl rfl⟩)⟩
theorem jf_248 : JF 248 := ⟨⟨in_g 1692 rfl rfl, in_g 93 rfl rfl, rfl, pd_19⟩, Or.inr (Or.inl ⟨rfl, in_g 1690 rfl rfl, in_g 1691 rfl rfl⟩)⟩
theorem jf_249 : JF 249 := ⟨⟨in_g 1699 rfl rfl, in_g 93 rfl rfl, rfl, pd_7⟩, Or.inr (Or.inl ⟨rfl, in_g 1697 rfl rfl, in_g 1698 rfl rfl⟩)⟩
theorem jf_250 : JF 250 := ⟨⟨in_g 1726 rfl rfl, in_g 93 rfl rfl, rfl, pd_13⟩, Or.inr (Or.inl ⟨rfl, in_g 1725 rfl rfl, in_g 76 rfl rfl⟩)⟩
theorem jf_251 : JF 251 := ⟨⟨in_g 1718 rfl rfl, in_g 93 rfl rfl, rfl, pd_18⟩, Or.inl ⟨rfl, in_g 1717 rfl rfl⟩⟩
theorem jf_252 : JF 252 := ⟨⟨in_g 1711 rfl rfl, in_g 93 rfl rfl, rfl, pd_15⟩, Or.inr (Or.inl ⟨rfl, in_g 1710 rfl rfl, in_g 73 rfl rfl⟩)⟩
theorem jf_253 : JF 253 := ⟨⟨in_g 1715 rfl rfl, in_g 93 rfl rfl, rfl, pd_19⟩, Or.inr (Or.inl ⟨rfl, in_g 1714 rfl rfl, in_g 74 rfl rfl⟩)⟩
theorem jf_254 : JF 254 := ⟨⟨in_g 1722 rfl rfl, in_g 93 rfl rfl, rfl, pd_19⟩, Or.inr (Or.inl ⟨rfl, in_g 1721 rfl rfl, in_g 75 rfl rfl⟩)⟩
theorem jf_255 : JF 255 := ⟨⟨in_g 1707 rfl rfl, in_g 93 rfl rfl, rfl, pd_19⟩, Or.inr (Or.inl ⟨rfl, in_g 1705 rfl rfl, in_g 1706 rfl rfl⟩)⟩
theorem jf_256 : JF 256 := ⟨⟨in_g 1731 rfl rfl, in_g 93 rfl rfl, rfl, pd_7⟩, Or.inr (Or.inl ⟨rfl, in_g 1729 rfl rfl, in_g 1730 rfl rfl⟩)⟩
theorem jf_257 : JF 257 := ⟨⟨in_g 1397 rfl rfl, in_g 93 rfl rfl, rfl, pd_14⟩, Or.inl ⟨rfl, in_g 1396 rfl rfl⟩⟩
theorem jf_258 : JF 258 := ⟨⟨in_g 1735 rfl rfl, in_g 93 rfl rfl, rfl, pd_19⟩, Or.inr (Or.inl ⟨rfl, in_g 1733 rfl rfl, in_g 1734 rfl rfl⟩)⟩
theorem jf_259 : JF 259 := ⟨⟨in_g 1739 rfl rfl, in_g 93 rfl rfl, rfl, pd_19⟩, Or.inr (Or.inl ⟨rfl, in_g 1737 rfl rfl, in_g 1738 rfl rfl⟩)⟩
theorem jf_260 : JF 260 := ⟨⟨in_g 1743 rfl rfl, in_g 93 rfl rfl, rfl, pd_26⟩, Or.inr (Or.inl ⟨rfl, in_g 1741 rfl rfl, in_g 1742 rfl rfl⟩)⟩
theorem jf_261 : JF 261 := ⟨⟨in_g 1750 rfl rfl, in_g 93 rfl rfl, rfl, pd_52⟩, Or.inl ⟨rfl, in_g 1749 rfl rfl⟩⟩
theorem jf_262 : JF 262 := ⟨⟨in_g 1747 rfl rfl, in_g 93 rfl rfl, rfl, pd_1⟩, Or.inr (Or.inl ⟨rfl, in_g 1745 rfl rfl, in_g 1746 rfl rfl⟩)⟩
theorem jf_263 : JF 263 := ⟨⟨in_g 1754 rfl rfl, in_g 93 rfl rfl, rfl, pd_1⟩, Or.inr (Or.inl ⟨rfl, in_g 1752 rfl rfl, in_g 1753 rfl rfl⟩)⟩
theorem jf_264 : JF 264 := ⟨⟨in_g 1758 rfl rfl, in_g 93 rfl rfl, rfl, pd_7⟩, Or.inr (Or.inl ⟨rfl, in_g 1756 rfl rfl, in_g 1757 rfl rfl⟩)⟩
theorem jf_265 : JF 265 := ⟨⟨in_g 1762 rfl rfl, in_g 93 rfl rfl, rfl, pd_15⟩, Or.inr (Or.inl ⟨rfl, in_g 1760 rfl rfl, in_g 1761 rfl rfl⟩)⟩
theorem jf_266 : JF 266 := ⟨⟨in_g 1766 rfl rfl, in_g 93 rfl rfl, rfl, pd_7⟩, Or.inr (Or.inl ⟨rfl, in_g 1764 rfl rfl, in_g 1765 rfl rfl⟩)⟩
theorem jf_267 : JF 267 := ⟨⟨in_g 1770 rfl rfl, in_g 93 rfl rfl, rfl, pd_7⟩, Or.inr (Or.inl ⟨rfl, in_g 1768 rfl rfl, in_g 1769 rfl rfl⟩)⟩
theorem jf_268 : JF 268 := ⟨⟨in_g 1114 rfl rfl, in_g 100 rfl rfl, rfl, pd_7⟩, Or.inl ⟨rfl, in_g 1113 rfl rfl⟩⟩
theorem jf_269 : JF 269 := ⟨⟨in_g 835 rfl rfl, in_g 94 rfl rfl, rfl, pd_15⟩, Or.inl ⟨rfl, in_g 834 rfl rfl⟩⟩
theorem jf_270 : JF 270 := ⟨⟨in_g 1123 rfl rfl, in_g 94 rfl rfl, rfl, pd_7⟩, Or.inl ⟨rfl, in_g 1122 rfl rfl⟩⟩
theorem jf_271 : JF 271 := ⟨⟨in_g 608 rfl rfl, in_g 94 rfl rfl, rfl, pd_15⟩, Or.inl ⟨rfl, in_g 607 rfl rfl⟩⟩
theorem jf_272 : JF 272 := ⟨⟨in_g 670 rfl rfl, in_g 94 rfl rfl, rfl, pd_15⟩, Or.inl ⟨rfl, in_g 669 rfl rfl⟩⟩
theorem jf_273 : JF 273 := ⟨⟨in_g 926 rfl rfl, in_g 94 rfl rfl, rfl, pd_35⟩, Or.inl ⟨rfl, in_g 925 rfl rfl⟩⟩
theorem jf_274 : JF 274 := ⟨⟨in_g 701 rfl rfl, in_g 95 rfl rfl, rfl, pd_1⟩, Or.inr (Or.inl ⟨rfl, in_g 699 rfl rfl, in_g 700 rfl rfl⟩)⟩
theorem jf_275 : JF 275 := ⟨⟨in_g 711 rfl rfl, in_g 95 rfl rfl, rfl, pd_6⟩, Or.inr (Or.inl ⟨rfl, in_g 709 rfl rfl, in_g 710 rfl rfl⟩)⟩
theorem jf_276 : JF 276 := ⟨⟨in_g 705 rfl rfl, in_g 95 rfl rfl, rfl, pd_0⟩, Or.inr (Or.inl ⟨rfl, in_g 703 rfl rfl, in_g 704 rfl rfl⟩)⟩
theorem jf_277 : JF 277 := ⟨⟨in_g 715 rfl rfl, in_g 95 rfl rfl, rfl, pd_4⟩, Or.inr (Or.inl ⟨rfl, in_g 713 rfl rfl, in_g 714 rfl rfl⟩)⟩
theorem jf_278 : JF 278 := ⟨⟨in_g 721 rfl rfl, in_g 95 rfl rfl, rfl, pd_17⟩, Or.inl ⟨rfl, in_g 720 rfl rfl⟩⟩
theorem jf_279 : JF 279 := ⟨⟨in_g 718 rfl rfl, in_g 96 rfl rfl, rfl, pd_49⟩, Or.inl ⟨rfl, in_g 717 rfl rfl⟩⟩
theorem jf_280 : JF 280 := ⟨⟨in_g 726 rfl rfl, in_g 97 rfl rfl, rfl, pd_29⟩, Or.inl ⟨rfl, in_g 725 rfl rfl⟩⟩
def allP (P : Nat → Prop) : Nat → Nat → Prop
  | _, 0 => True
  | s, n + 1 => P s ∧ allP P (s + 1) n
theorem allP_get {P : Nat → Prop} : ∀ {n s : Nat}, allP P s n → ∀ j, s ≤ j → j < s + n → P j
  | 0, s, _, j, h1, h2 => by omega
  | n + 1, s, h, j, h1, h2 => by
    by_cases e : j = s
    · rw [e]; exact h.1
    · exact allP_get h.2 j (by omega) (by omega)
theorem ja_0 : allP JF 0 16 := And.intro jf_0 (And.intro jf_1 (And.intro jf_2 (And.intro jf_3 (And.intro jf_4 (And.intro jf_5 (And.intro jf_6 (And.intro jf_7 (And.intro jf_8 (And.intro jf_9 (And.intro jf_10 (And.intro jf_11 (And.intro jf_12 (And.intro jf_13 (And.intro jf_14 (And.intro jf_15 (trivial))))))))))))))))
theorem ja_1 : allP JF 16 16 := And.intro jf_16 (And.intro jf_17 (And.intro jf_18 (And.intro jf_19 (And.intro jf_20 (And.intro jf_21 (And.intro jf_22 (And.intro jf_23 (And.intro jf_24 (And.intro jf_25 (And.intro jf_26 (And.intro jf_27 (And.intro jf_28 (And.intro jf_29 (And.intro jf_30 (And.intro jf_31 (trivial))))))))))))))))
theorem ja_2 : allP JF 32 16 := And.intro jf_32 (And.intro jf_33 (And.intro jf_34 (And.intro jf_35 (And.intro jf_36 (And.intro jf_37 (And.intro jf_38 (And.intro jf_39 (And.intro jf_40 (And.intro jf_41 (And.intro jf_42 (And.intro jf_43 (And.intro jf_44 (And.intro jf_45 (And.intro jf_46 (And.intro jf_47 (trivial))))))))))))))))
theorem ja_3 : allP JF 48 16 := And.intro jf_48 (And.intro jf_49 (And.intro jf_50 (And.intro jf_51 (And.intro jf_52 (And.intro jf_53 (And.intro jf_54 (And.intro jf_55 (And.intro jf_56 (And.intro jf_57 (And.intro jf_58 (And.intro jf_59 (And.intro jf_60 (And.intro jf_61 (And.intro jf_62 (And.intro jf_63 (trivial))))))))))))))))
theorem ja_4 : allP JF 64 16 := And.intro jf_64 (And.intro jf_65 (And.intro jf_66 (And.intro jf_67 (And.intro jf_68 (And.intro jf_69 (And.intro jf_70 (And.intro jf_71 (And.intro jf_72 (And.intro jf_73 (And.intro jf_74 (And.intro jf_75 (And.intro jf_76 (And.intro jf_77 (And.intro jf_78 (And.intro jf_79 (trivial))))))))))))))))
theorem ja_5 : allP JF 80 16 := And.intro jf_80 (And.intro jf_81 (And.intro jf_82 (And.intro jf_83 (And.intro jf_84 (And.intro jf_85 (And.intro jf_86 (And.intro jf_87 (And.intro jf_88 (And.intro jf_89 (And.intro jf_90 (And.intro jf_91 (And.intro jf_92 (And.intro jf_93 (And.intro jf_94 (And.intro jf_95 (trivial))))))))))))))))
theorem ja_6 : allP JF 96 16 := And.intro jf_96 (And.intro jf_97 (And.intro jf_98 (And.intro jf_99 (And.intro jf_100 (And.intro jf_101 (And.intro jf_102 (And.intro jf_103 (And.intro jf_104 (And.intro jf_105 (And.intro jf_106 (And.intro jf_107 (And.intro jf_108 (And.intro jf_109 (And.intro jf_110 (And.intro jf_111 (trivial))))))))))))))))
theorem ja_7 : allP JF 112 16 := And.intro jf_112 (And.intro jf_113 (And.intro jf_114 (And.intro jf_115 (And.intro jf_116 (And.intro jf_117 (And.intro jf_118 (And.intro jf_119 (And.intro jf_120 (And.intro jf_121 (And.intro jf_122 (And.intro jf_123 (And.intro jf_124 (And.intro jf_125 (And.intro jf_126 (And.intro jf_127 (trivial))))))))))))))))
theorem ja_8 : allP JF 128 16 := And.intro jf_128 (And.intro jf_129 (And.intro jf_130 (And.intro jf_131 (And.intro jf_132 (And.intro jf_133 (And.intro jf_134 (And.intro jf_135 (And.intro jf_136 (And.intro jf_137 (And.intro jf_138 (And.intro jf_139 (And.intro jf_140 (And.intro jf_141 (And.intro jf_142 (And.intro jf_143 (trivial))))))))))))))))
theorem ja_9 : allP JF 144 16 := And.intro jf_144 (And.intro jf_145 (And.intro jf_146 (And.intro jf_147 (And.intro jf_148 (And.intro jf_149 (And.intro jf_150 (And.intro jf_151 (And.intro jf_152 (And.intro jf_153 (And.intro jf_154 (And.intro jf_155 (And.intro jf_156 (And.intro jf_157 (And.intro jf_158 (And.intro jf_159 (trivial))))))))))))))))
theorem ja_10 : allP JF 160 16 := And.intro jf_160 (And.intro jf_161 (And.intro jf_162 (And.intro jf_163 (And.intro jf_164 (And.intro jf_165 (And.intro jf_166 (And.intro jf_167 (And.intro jf_168 (And.intro jf_169 (And.intro jf_170 (And.intro jf_171 (And.intro jf_172 (And.intro jf_173 (And.intro jf_174 (And.intro jf_175 (trivial))))))))))))))))
theorem ja_11 : allP JF 176 16 := And.intro jf_176 (And.intro jf_177 (And.intro jf_178 (And.intro jf_179 (And.intro jf_180 (And.intro jf_181 (And.intro jf_182 (And.intro jf_183 (And.intro jf_184 (And.intro jf_185 (And.intro jf_186 (And.intro jf_187 (And.intro jf_188 (And.intro jf_189 (And.intro jf_190 (And.intro jf_191 (trivial))))))))))))))))
theorem ja_12 : allP JF 192 16 := And.intro jf_192 (And.intro jf_193 (And.intro jf_194 (And.intro jf_195 (And.intro jf_196 (And.intro jf_197 (And.intro jf_198 (And.intro jf_199 (And.intro jf_200 (And.intro jf_201 (And.intro jf_202 (And.intro jf_203 (And.intro jf_204 (And.intro jf_205 (And.intro jf_206 (And.intro jf_207 (trivial))))))))))))))))
theorem ja_13 : allP JF 208 16 := And.intro jf_208 (And.intro jf_209 (And.intro jf_210 (And.intro jf_211 (And.intro jf_212 (And.intro jf_213 (And.intro jf_214 (And.intro jf_215 (And.intro jf_216 (And.intro jf_217 (And.intro jf_218 (And.intro jf_219 (And.intro jf_220 (And.intro jf_221 (And.intro jf_222 (And.intro jf_223 (trivial))))))))))))))))
theorem ja_14 : allP JF 224 16 := And.intro jf_224 (And.intro jf_225 (And.intro jf_226 (And.intro jf_227 (And.intro jf_228 (And.intro jf_229 (And.intro jf_230 (And.intro jf_231 (And.intro jf_232 (And.intro jf_233 (And.intro jf_234 (And.intro jf_235 (And.intro jf_236 (And.intro jf_237 (And.intro jf_238 (And.intro jf_239 (trivial))))))))))))))))
theorem ja_15 : allP JF 240 16 := And.intro jf_240 (And.intro jf_241 (And.intro jf_242 (And.intro jf_243 (And.intro jf_244 (And.intro jf_245 (And.intro jf_246 (And.intro jf_247 (And.intro jf_248 (And.intro jf_249 (And.intro jf_250 (And.intro jf_251 (And.intro jf_252 (And.intro jf_253 (And.intro jf_254 (And.intro jf_255 (trivial))))))))))))))))
theorem ja_16 : allP JF 256 16 := And.intro jf_256 (And.intro jf_257 (And.intro jf_258 (And.intro jf_259 (And.intro jf_260 (And.intro jf_261 (And.intro jf_262 (And.intro jf_263 (And.intro jf_264 (And.intro jf_265 (And.intro jf_266 (And.intro jf_267 (And.intro jf_268 (And.intro jf_269 (And.intro jf_270 (And.intro jf_271 (trivial))))))))))))))))
theorem ja_17 : allP JF 272 9 := And.intro jf_272 (And.intro jf_273 (And.intro jf_274 (And.intro jf_275 (And.intro jf_276 (And.intro jf_277 (And.intro jf_278 (And.intro jf_279 (And.intro jf_280 (trivial)))))))))
theorem jAll : ∀ j, j < NM → JF j := by
  intro j h
  unfold NM at h
  by_cases h0 : j < 16
  · exact allP_get ja_0 j (by omega) (by omega)
  by_cases h1 : j < 32
  · exact allP_get ja_1 j (by omega) (by omega)
  by_cases h2 : j < 48
  · exact allP_get ja_2 j (by omega) (by omega)
  by_cases h3 : j < 64
  · exact allP_get ja_3 j (by omega) (by omega)
  by_cases h4 : j < 80
  · exact allP_get ja_4 j (by omega) (by omega)
  by_cases h5 : j < 96
  · exact allP_get ja_5 j (by omega) (by omega)
  by_cases h6 : j < 112
  · exact allP_get ja_6 j (by omega) (by omega)
  by_cases h7 : j < 128
  · exact allP_get ja_7 j (by omega) (by omega)
  by_cases h8 : j < 144
  · exact allP_get ja_8 j (by omega) (by omega)
  by_cases h9 : j < 160
  · exact allP_get ja_9 j (by omega) (by omega)
  by_cases h10 : j < 176
  · exact allP_get ja_10 j (by omega) (by omega)
  by_cases h11 : j < 192
  · exact allP_get ja_11 j (by omega) (by omega)
  by_cases h12 : j < 208
  · exact allP_get ja_12 j (by omega) (by omega)
  by_cases h13 : j < 224
  · exact allP_get ja_13 j (by omega) (by omega)
  by_cases h14 : j < 240
  · exact allP_get ja_14 j (by omega) (by omega)
  by_cases h15 : j < 256
  · exact allP_get ja_15 j (by omega) (by omega)
  by_cases h16 : j < 272
  · exact allP_get ja_16 j (by omega) (by omega)
  by_cases h17 : j < 281
  · exact allP_get ja_17 j (by omega) (by omega)
  omega
theorem oC_ne : ∀ o, o < 20 → oC o ≠ "java/lang/invoke/MethodHandle" ∧ oC o ≠ "java/lang/invoke/VarHandle" := by decide +kernel
theorem oC_pl : ∀ o, o < 20 → o ≠ 18 → plainName (oC o) = true := by decide +kernel
theorem plm_269 : plainFor (mY 269) = true := by decide +kernel
theorem plm_270 : plainFor (mY 270) = true := by decide +kernel
theorem plm_271 : plainFor (mY 271) = true := by decide +kernel
theorem plm_272 : plainFor (mY 272) = true := by decide +kernel
theorem plm_273 : plainFor (mY 273) = true := by decide +kernel
theorem mO_m : ∀ j, j < NM → mO j = 18 → j = 269 ∨ j = 270 ∨ j = 271 ∨ j = 272 ∨ j = 273 := by decide +kernel
theorem j_pl {j : Nat} (h : j < NM) (h2 : mO j < 20) (h3 : oC (mO j) = (mY j).cls) : plainFor (mY j) = true := by
  by_cases e : mO j = 18
  · rcases mO_m j h e with rfl | rfl | rfl | rfl | rfl
    · exact plm_269
    · exact plm_270
    · exact plm_271
    · exact plm_272
    · exact plm_273
  · have := oC_pl _ h2 e
    rw [h3] at this
    exact plainFor_of_name this
theorem mO_lt : ∀ j, j < NM → mO j < 20 ∧ mL j ≤ 40 := by decide +kernel
theorem in_obj : Jvm.Cond.instanceMethod objectInit ∈ goods := in_g 107 rfl rfl
theorem code_obj : Jvm.Cond.code objectInit ⟨#[0xb1]⟩ 1 none ∈ goods := in_g 108 rfl rfl
theorem cp_nat : Jvm.Cond.native arraycopyName ∈ goods := in_g 779 rfl rfl
theorem cp_stat : Jvm.Cond.static arraycopyName ∈ goods := in_g 778 rfl rfl
theorem cp_ini : Jvm.Cond.initialized "java/lang/System" ∈ goods := in_g 99 rfl rfl
theorem ac_i : Jvm.Cond.arrayClass (newarray.typeOf .int) ∈ goods := in_g 139 rfl rfl
theorem ac_b : Jvm.Cond.arrayClass (newarray.typeOf .byte) ∈ goods := in_g 140 rfl rfl
theorem ins_0 : Jvm.Cond.instantiable (clC 0) (clN 0) ∈ goods := in_g 142 rfl rfl
theorem ini_0 : Jvm.Cond.initialized (clC 0) ∈ goods := in_g 84 rfl rfl
theorem ins_1 : Jvm.Cond.instantiable (clC 1) (clN 1) ∈ goods := in_g 342 rfl rfl
theorem ini_1 : Jvm.Cond.initialized (clC 1) ∈ goods := in_g 89 rfl rfl
theorem ins_2 : Jvm.Cond.instantiable (clC 2) (clN 2) ∈ goods := in_g 121 rfl rfl
theorem ini_2 : Jvm.Cond.initialized (clC 2) ∈ goods := in_g 83 rfl rfl
theorem ins_3 : Jvm.Cond.instantiable (clC 3) (clN 3) ∈ goods := in_g 425 rfl rfl
theorem ini_3 : Jvm.Cond.initialized (clC 3) ∈ goods := in_g 91 rfl rfl
theorem ins_4 : Jvm.Cond.instantiable (clC 4) (clN 4) ∈ goods := in_g 174 rfl rfl
theorem ini_4 : Jvm.Cond.initialized (clC 4) ∈ goods := in_g 85 rfl rfl
theorem ins_5 : Jvm.Cond.instantiable (clC 5) (clN 5) ∈ goods := in_g 237 rfl rfl
theorem ini_5 : Jvm.Cond.initialized (clC 5) ∈ goods := in_g 87 rfl rfl
theorem ins_6 : Jvm.Cond.instantiable (clC 6) (clN 6) ∈ goods := in_g 180 rfl rfl
theorem ini_6 : Jvm.Cond.initialized (clC 6) ∈ goods := in_g 86 rfl rfl
theorem ins_7 : Jvm.Cond.instantiable (clC 7) (clN 7) ∈ goods := in_g 442 rfl rfl
theorem ini_7 : Jvm.Cond.initialized (clC 7) ∈ goods := in_g 92 rfl rfl
theorem ins_8 : Jvm.Cond.instantiable (clC 8) (clN 8) ∈ goods := in_g 110 rfl rfl
theorem ini_8 : Jvm.Cond.initialized (clC 8) ∈ goods := in_g 82 rfl rfl
theorem ins_9 : Jvm.Cond.instantiable (clC 9) (clN 9) ∈ goods := in_g 404 rfl rfl
theorem ini_9 : Jvm.Cond.initialized (clC 9) ∈ goods := in_g 90 rfl rfl
theorem ins_10 : Jvm.Cond.instantiable (clC 10) (clN 10) ∈ goods := in_g 309 rfl rfl
theorem ini_10 : Jvm.Cond.initialized (clC 10) ∈ goods := in_g 88 rfl rfl
theorem ins_11 : Jvm.Cond.instantiable (clC 11) (clN 11) ∈ goods := in_g 102 rfl rfl
theorem ini_11 : Jvm.Cond.initialized (clC 11) ∈ goods := in_g 81 rfl rfl
theorem ins_12 : Jvm.Cond.instantiable (clC 12) (clN 12) ∈ goods := in_g 1259 rfl rfl
theorem ini_12 : Jvm.Cond.initialized (clC 12) ∈ goods := in_g 93 rfl rfl
set_option maxRecDepth 100000 in
theorem cl_in0 : ∀ w ∈ u_ws RX0 TX0 7, w ∈ goods := List.forall_mem_cons.mpr ⟨in_g 159 rfl rfl, List.forall_mem_cons.mpr ⟨in_g 161 rfl rfl, List.forall_mem_cons.mpr ⟨in_g 163 rfl rfl, List.forall_mem_cons.mpr ⟨in_g 165 rfl rfl, List.forall_mem_cons.mpr ⟨in_g 167 rfl rfl, List.forall_mem_cons.mpr ⟨in_g 169 rfl rfl, List.forall_mem_cons.mpr ⟨in_g 171 rfl rfl, fun _ h => by (cases h)⟩⟩⟩⟩⟩⟩⟩
set_option maxRecDepth 100000 in
theorem cl_in1 : ∀ w ∈ u_ws RX1 TX1 15, w ∈ goods := List.forall_mem_cons.mpr ⟨in_g 372 rfl rfl, List.forall_mem_cons.mpr ⟨in_g 374 rfl rfl, List.forall_mem_cons.mpr ⟨in_g 376 rfl rfl, List.forall_mem_cons.mpr ⟨in_g 378 rfl rfl, List.forall_mem_cons.mpr ⟨in_g 380 rfl rfl, List.forall_mem_cons.mpr ⟨in_g 382 rfl rfl, List.forall_mem_cons.mpr ⟨in_g 384 rfl rfl, List.forall_mem_cons.mpr ⟨in_g 386 rfl rfl, List.forall_mem_cons.mpr ⟨in_g 388 rfl rfl, List.forall_mem_cons.mpr ⟨in_g 390 rfl rfl, List.forall_mem_cons.mpr ⟨in_g 392 rfl rfl, List.forall_mem_cons.mpr ⟨in_g 394 rfl rfl, List.forall_mem_cons.mpr ⟨in_g 396 rfl rfl, List.forall_mem_cons.mpr ⟨in_g 398 rfl rfl, List.forall_mem_cons.mpr ⟨in_g 400 rfl rfl, fun _ h => by (cases h)⟩⟩⟩⟩⟩⟩⟩⟩⟩⟩⟩⟩⟩⟩⟩
set_option maxRecDepth 100000 in
theorem cl_in2 : ∀ w ∈ u_ws RX2 TX2 4, w ∈ goods := List.forall_mem_cons.mpr ⟨in_g 130 rfl rfl, List.forall_mem_cons.mpr ⟨in_g 132 rfl rfl, List.forall_mem_cons.mpr ⟨in_g 134 rfl rfl, List.forall_mem_cons.mpr ⟨in_g 136 rfl rfl, fun _ h => by (cases h)⟩⟩⟩⟩
set_option maxRecDepth 100000 in
theorem cl_in3 : ∀ w ∈ u_ws RX3 TX3 3, w ∈ goods := List.forall_mem_cons.mpr ⟨in_g 435 rfl rfl, List.forall_mem_cons.mpr ⟨in_g 437 rfl rfl, List.forall_mem_cons.mpr ⟨in_g 439 rfl rfl, fun _ h => by (cases h)⟩⟩⟩
set_option maxRecDepth 100000 in
theorem cl_in4 : ∀ w ∈ u_ws RX4 TX4 6, w ∈ goods := List.forall_mem_cons.mpr ⟨in_g 224 rfl rfl, List.forall_mem_cons.mpr ⟨in_g 226 rfl rfl, List.forall_mem_cons.mpr ⟨in_g 228 rfl rfl, List.forall_mem_cons.mpr ⟨in_g 230 rfl rfl, List.forall_mem_cons.mpr ⟨in_g 232 rfl rfl, List.forall_mem_cons.mpr ⟨in_g 234 rfl rfl, fun _ h => by (cases h)⟩⟩⟩⟩⟩⟩
set_option maxRecDepth 100000 in
theorem cl_in5 : ∀ w ∈ u_ws RX5 TX5 5, w ∈ goods := List.forall_mem_cons.mpr ⟨in_g 252 rfl rfl, List.forall_mem_cons.mpr ⟨in_g 254 rfl rfl, List.forall_mem_cons.mpr ⟨in_g 256 rfl rfl, List.forall_mem_cons.mpr ⟨in_g 258 rfl rfl, List.forall_mem_cons.mpr ⟨in_g 260 rfl rfl, fun _ h => by (cases h)⟩⟩⟩⟩⟩
set_option maxRecDepth 100000 in
theorem cl_in6 : ∀ w ∈ u_ws RX6 TX6 6, w ∈ goods := List.forall_mem_cons.mpr ⟨in_g 197 rfl rfl, List.forall_mem_cons.mpr ⟨in_g 199 rfl rfl, List.forall_mem_cons.mpr ⟨in_g 201 rfl rfl, List.forall_mem_cons.mpr ⟨in_g 203 rfl rfl, List.forall_mem_cons.mpr ⟨in_g 205 rfl rfl, List.forall_mem_cons.mpr ⟨in_g 207 rfl rfl, fun _ h => by (cases h)⟩⟩⟩⟩⟩⟩
set_option maxRecDepth 100000 in
theorem cl_in7 : ∀ w ∈ u_ws RX7 TX7 3, w ∈ goods := List.forall_mem_cons.mpr ⟨in_g 452 rfl rfl, List.forall_mem_cons.mpr ⟨in_g 454 rfl rfl, List.forall_mem_cons.mpr ⟨in_g 456 rfl rfl, fun _ h => by (cases h)⟩⟩⟩
set_option maxRecDepth 100000 in
theorem cl_in8 : ∀ w ∈ u_ws RX8 TX8 12, w ∈ goods := List.forall_mem_cons.mpr ⟨in_g 281 rfl rfl, List.forall_mem_cons.mpr ⟨in_g 283 rfl rfl, List.forall_mem_cons.mpr ⟨in_g 285 rfl rfl, List.forall_mem_cons.mpr ⟨in_g 287 rfl rfl, List.forall_mem_cons.mpr ⟨in_g 289 rfl rfl, List.forall_mem_cons.mpr ⟨in_g 291 rfl rfl, List.forall_mem_cons.mpr ⟨in_g 293 rfl rfl, List.forall_mem_cons.mpr ⟨in_g 295 rfl rfl, List.forall_mem_cons.mpr ⟨in_g 297 rfl rfl, List.forall_mem_cons.mpr ⟨in_g 299 rfl rfl, List.forall_mem_cons.mpr ⟨in_g 301 rfl rfl, List.forall_mem_cons.mpr ⟨in_g 303 rfl rfl, fun _ h => by (cases h)⟩⟩⟩⟩⟩⟩⟩⟩⟩⟩⟩⟩
set_option maxRecDepth 100000 in
theorem cl_in9 : ∀ w ∈ u_ws RX9 TX9 4, w ∈ goods := List.forall_mem_cons.mpr ⟨in_g 413 rfl rfl, List.forall_mem_cons.mpr ⟨in_g 415 rfl rfl, List.forall_mem_cons.mpr ⟨in_g 417 rfl rfl, List.forall_mem_cons.mpr ⟨in_g 419 rfl rfl, fun _ h => by (cases h)⟩⟩⟩⟩
set_option maxRecDepth 100000 in
theorem cl_in10 : ∀ w ∈ u_ws RX10 TX10 8, w ∈ goods := List.forall_mem_cons.mpr ⟨in_g 324 rfl rfl, List.forall_mem_cons.mpr ⟨in_g 326 rfl rfl, List.forall_mem_cons.mpr ⟨in_g 328 rfl rfl, List.forall_mem_cons.mpr ⟨in_g 330 rfl rfl, List.forall_mem_cons.mpr ⟨in_g 332 rfl rfl, List.forall_mem_cons.mpr ⟨in_g 334 rfl rfl, List.forall_mem_cons.mpr ⟨in_g 336 rfl rfl, List.forall_mem_cons.mpr ⟨in_g 338 rfl rfl, fun _ h => by (cases h)⟩⟩⟩⟩⟩⟩⟩⟩
set_option maxRecDepth 100000 in
theorem cl_in11 : ∀ w ∈ u_ws RX11 TX11 11, w ∈ goods := List.forall_mem_cons.mpr ⟨in_g 470 rfl rfl, List.forall_mem_cons.mpr ⟨in_g 472 rfl rfl, List.forall_mem_cons.mpr ⟨in_g 474 rfl rfl, List.forall_mem_cons.mpr ⟨in_g 476 rfl rfl, List.forall_mem_cons.mpr ⟨in_g 478 rfl rfl, List.forall_mem_cons.mpr ⟨in_g 480 rfl rfl, List.forall_mem_cons.mpr ⟨in_g 482 rfl rfl, List.forall_mem_cons.mpr ⟨in_g 484 rfl rfl, List.forall_mem_cons.mpr ⟨in_g 486 rfl rfl, List.forall_mem_cons.mpr ⟨in_g 488 rfl rfl, List.forall_mem_cons.mpr ⟨in_g 490 rfl rfl, fun _ h => by (cases h)⟩⟩⟩⟩⟩⟩⟩⟩⟩⟩⟩
set_option maxRecDepth 100000 in
theorem cl_in12 : ∀ w ∈ u_ws RX12 TX12 38, w ∈ goods := List.forall_mem_cons.mpr ⟨in_g 1311 rfl rfl, List.forall_mem_cons.mpr ⟨in_g 1313 rfl rfl, List.forall_mem_cons.mpr ⟨in_g 1315 rfl rfl, List.forall_mem_cons.mpr ⟨in_g 1317 rfl rfl, List.forall_mem_cons.mpr ⟨in_g 1319 rfl rfl, List.forall_mem_cons.mpr ⟨in_g 1321 rfl rfl, List.forall_mem_cons.mpr ⟨in_g 1323 rfl rfl, List.forall_mem_cons.mpr ⟨in_g 1325 rfl rfl, List.forall_mem_cons.mpr ⟨in_g 1327 rfl rfl, List.forall_mem_cons.mpr ⟨in_g 1329 rfl rfl, List.forall_mem_cons.mpr ⟨in_g 1331 rfl rfl, List.forall_mem_cons.mpr ⟨in_g 1333 rfl rfl, List.forall_mem_cons.mpr ⟨in_g 1335 rfl rfl, List.forall_mem_cons.mpr ⟨in_g 1337 rfl rfl, List.forall_mem_cons.mpr ⟨in_g 1339 rfl rfl, List.forall_mem_cons.mpr ⟨in_g 1341 rfl rfl, List.forall_mem_cons.mpr ⟨in_g 1343 rfl rfl, List.forall_mem_cons.mpr ⟨in_g 1345 rfl rfl, List.forall_mem_cons.mpr ⟨in_g 1347 rfl rfl, List.forall_mem_cons.mpr ⟨in_g 1349 rfl rfl, List.forall_mem_cons.mpr ⟨in_g 1351 rfl rfl, List.forall_mem_cons.mpr ⟨in_g 1353 rfl rfl, List.forall_mem_cons.mpr ⟨in_g 1355 rfl rfl, List.forall_mem_cons.mpr ⟨in_g 1357 rfl rfl, List.forall_mem_cons.mpr ⟨in_g 1359 rfl rfl, List.forall_mem_cons.mpr ⟨in_g 1361 rfl rfl, List.forall_mem_cons.mpr ⟨in_g 1363 rfl rfl, List.forall_mem_cons.mpr ⟨in_g 1365 rfl rfl, List.forall_mem_cons.mpr ⟨in_g 1367 rfl rfl, List.forall_mem_cons.mpr ⟨in_g 1369 rfl rfl, List.forall_mem_cons.mpr ⟨in_g 1371 rfl rfl, List.forall_mem_cons.mpr ⟨in_g 1373 rfl rfl, List.forall_mem_cons.mpr ⟨in_g 1375 rfl rfl, List.forall_mem_cons.mpr ⟨in_g 1377 rfl rfl, List.forall_mem_cons.mpr ⟨in_g 1379 rfl rfl, List.forall_mem_cons.mpr ⟨in_g 1381 rfl rfl, List.forall_mem_cons.mpr ⟨in_g 1383 rfl rfl, List.forall_mem_cons.mpr ⟨in_g 1385 rfl rfl, fun _ h => by (cases h)⟩⟩⟩⟩⟩⟩⟩⟩⟩⟩⟩⟩⟩⟩⟩⟩⟩⟩⟩⟩⟩⟩⟩⟩⟩⟩⟩⟩⟩⟩⟩⟩⟩⟩⟩⟩⟩⟩
