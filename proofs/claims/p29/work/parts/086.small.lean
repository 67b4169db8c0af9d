/-! small methods. Own work (scripts laid by wip/pm/gen12.py). -/
theorem FS_sheet {F : pF} (hF : FS F) {i : Nat} (h : i < 4) : F 204 i = some (227 + 2 * i) := by
  match i, h with
  | 0, _ => exact hF.g rfl
  | 1, _ => exact hF.g rfl
  | 2, _ => exact hF.g rfl
  | 3, _ => exact hF.g rfl
  | i + 4, h => omega
theorem n14 {P : Nat → Prop} (h0 : P 0) (h1 : P 1) (h2 : P 2) (h3 : P 3) (h4 : P 4) (h5 : P 5) (h6 : P 6) (h7 : P 7) (h8 : P 8) (h9 : P 9) (h10 : P 10) (h11 : P 11) (h12 : P 12) (h13 : P 13) : ∀ c, c < 14 → P c := by
  intro c h
  by_cases e : c < 13
  · exact c13 h0 h1 h2 h3 h4 h5 h6 h7 h8 h9 h10 h11 h12 c e
  · have : c = 13 := by omega
    subst this
    exact h13
/-- a state stands at 1 or at 102 -/
def isS (S : Nat) : Prop := S = 1 ∨ S = 102
theorem FS_pc1 {F : pF} (hF : FS F) : ∀ i, i < 14 → F 2 i = some (1 + 19 + 5 * i) := n14 (hF.g rfl) (hF.g rfl) (hF.g rfl) (hF.g rfl) (hF.g rfl) (hF.g rfl) (hF.g rfl) (hF.g rfl) (hF.g rfl) (hF.g rfl) (hF.g rfl) (hF.g rfl) (hF.g rfl) (hF.g rfl)
theorem FS_pc2 {F : pF} (hF : FS F) : ∀ i, i < 14 → F 103 i = some (102 + 19 + 5 * i) := n14 (hF.g rfl) (hF.g rfl) (hF.g rfl) (hF.g rfl) (hF.g rfl) (hF.g rfl) (hF.g rfl) (hF.g rfl) (hF.g rfl) (hF.g rfl) (hF.g rfl) (hF.g rfl) (hF.g rfl) (hF.g rfl)
theorem FS_pc {F : pF} (hF : FS F) {S i : Nat} (hS : S = 1 ∨ S = 102) (h : i < 14) : F (S + 1) i = some (S + 19 + 5 * i) := by
  rcases hS with rfl | rfl
  · exact FS_pc1 hF i h
  · exact FS_pc2 hF i h
theorem n4 {P : Nat → Prop} (h0 : P 0) (h1 : P 1) (h2 : P 2) (h3 : P 3) : ∀ c, c < 4 → P c := by
  intro c h
  match c, h with
  | 0, _ => exact h0
  | 1, _ => exact h1
  | 2, _ => exact h2
  | 3, _ => exact h3
  | c + 4, h => omega
theorem FS_pg {F : pF} (hF : FS F) {S i : Nat} (hS : S = 1 ∨ S = 102) (h : i < 4) : F (S + 2) i = some (S + 89 + 3 * i) := by
  rcases hS with rfl | rfl
  · exact n4 (P := fun i => F 3 i = some (1 + 89 + 3 * i)) (hF.g rfl) (hF.g rfl) (hF.g rfl) (hF.g rfl) i h
  · exact n4 (P := fun i => F 104 i = some (102 + 89 + 3 * i)) (hF.g rfl) (hF.g rfl) (hF.g rfl) (hF.g rfl) i h
/-- the parts of a state -/
def SS (F : pF) (S : Nat) : Prop := lay S = (8, 12) ∧ lay (S + 1) = (204, 14) ∧ lay (S + 2) = (205, 4) ∧ lay (S + 3) = (100, 5) ∧ lay (S + 4) = (101, 64) ∧ lay (S + 5) = (100, 4) ∧ lay (S + 18) = (100, 48) ∧ S + 100 < NP ∧
  F S 0 = some (S + 1) ∧ F S 2 = some (S + 2) ∧ F S 3 = some (S + 3) ∧ F S 4 = some (S + 4) ∧ F S 6 = some (S + 5) ∧ F S 8 = some (S + 6) ∧ F S 9 = some (S + 11) ∧ F S 10 = some (S + 18)
theorem FS_S {F : pF} (hF : FS F) {S : Nat} (hS : S = 1 ∨ S = 102) : SS F S := by
  rcases hS with rfl | rfl
  · exact ⟨rfl, rfl, rfl, rfl, rfl, rfl, rfl, by decide, hF.g rfl, hF.g rfl, hF.g rfl, hF.g rfl, hF.g rfl, hF.g rfl, hF.g rfl, hF.g rfl⟩
  · exact ⟨rfl, rfl, rfl, rfl, rfl, rfl, rfl, by decide, hF.g rfl, hF.g rfl, hF.g rfl, hF.g rfl, hF.g rfl, hF.g rfl, hF.g rfl, hF.g rfl⟩
section SM
variable {G : pG} {d : Nat} {F : pF} {I : pI} {Q : Option pV → pF → pI → Prop}
theorem s_X11_within {v lo hi : Int} (h1 : (lo ≤ v ∧ v ≤ hi) → Q (some (vi 1)) F I) (h0 : ¬ ((lo ≤ v ∧ v ≤ hi)) → Q (some (vi 0)) F I) : CallN G d kX11_within [vi v, vi lo, vi hi] NP F I Q := by
  refine Call_wp (lv := [some (vi v), some (vi lo), some (vi hi)]) (by decide) ckX11_within [] rfl rfl ?_
  refine ⟨fun c1 => ?_, fun c1 => ?_⟩
  ·
    refine ⟨rfl, (by decide), h0 (by omega)⟩
  ·
    refine ⟨fun c2 => ?_, fun c2 => ?_⟩
    ·
      refine ⟨rfl, (by decide), h0 (by omega)⟩
    ·
      refine ⟨rfl, (by decide), h1 (by omega)⟩
theorem s_X12_within {v lo hi : Int} (h1 : (lo ≤ v ∧ v ≤ hi) → Q (some (vi 1)) F I) (h0 : ¬ ((lo ≤ v ∧ v ≤ hi)) → Q (some (vi 0)) F I) : CallN G d kX12_within [vi v, vi lo, vi hi] NP F I Q := by
  refine Call_wp (lv := [some (vi v), some (vi lo), some (vi hi)]) (by decide) ckX12_within [] rfl rfl ?_
  refine ⟨fun c1 => ?_, fun c1 => ?_⟩
  ·
    refine ⟨rfl, (by decide), h0 (by omega)⟩
  ·
    refine ⟨fun c2 => ?_, fun c2 => ?_⟩
    ·
      refine ⟨rfl, (by decide), h0 (by omega)⟩
    ·
      refine ⟨rfl, (by decide), h1 (by omega)⟩
theorem s_X11_isLot {v : Int} (h1 : (0 ≤ v ∧ v ≤ 3) → Q (some (vi 1)) F I) (h0 : ¬ ((0 ≤ v ∧ v ≤ 3)) → Q (some (vi 0)) F I) : CallN G (d + 1) kX11_isLot [vi v] NP F I Q := by
  refine Call_wp (lv := [some (vi v)]) (by decide) ckX11_isLot [] rfl rfl ?_
  refine s_X11_within (fun hw => ?_) (fun hw => ?_)
  ·
    refine ⟨rfl, (by decide), h1 (by omega)⟩
  ·
    refine ⟨rfl, (by decide), h0 (by omega)⟩
theorem s_X11_isLaw {v : Int} (h1 : (0 ≤ v ∧ v ≤ 3) → Q (some (vi 1)) F I) (h0 : ¬ ((0 ≤ v ∧ v ≤ 3)) → Q (some (vi 0)) F I) : CallN G (d + 1) kX11_isLaw [vi v] NP F I Q := by
  refine Call_wp (lv := [some (vi v)]) (by decide) ckX11_isLaw [] rfl rfl ?_
  refine s_X11_within (fun hw => ?_) (fun hw => ?_)
  ·
    refine ⟨rfl, (by decide), h1 (by omega)⟩
  ·
    refine ⟨rfl, (by decide), h0 (by omega)⟩
theorem s_X11_isMeter {v : Int} (h1 : (0 ≤ v ∧ v ≤ 5) → Q (some (vi 1)) F I) (h0 : ¬ ((0 ≤ v ∧ v ≤ 5)) → Q (some (vi 0)) F I) : CallN G (d + 1) kX11_isMeter [vi v] NP F I Q := by
  refine Call_wp (lv := [some (vi v)]) (by decide) ckX11_isMeter [] rfl rfl ?_
  refine s_X11_within (fun hw => ?_) (fun hw => ?_)
  ·
    refine ⟨rfl, (by decide), h1 (by omega)⟩
  ·
    refine ⟨rfl, (by decide), h0 (by omega)⟩
theorem s_X12_isLot {v : Int} (h1 : (0 ≤ v ∧ v ≤ 3) → Q (some (vi 1)) F I) (h0 : ¬ ((0 ≤ v ∧ v ≤ 3)) → Q (some (vi 0)) F I) : CallN G (d + 1) kX12_isLot [vi v] NP F I Q := by
  refine Call_wp (lv := [some (vi v)]) (by decide) ckX12_isLot [] rfl rfl ?_
  refine s_X12_within (fun hw => ?_) (fun hw => ?_)
  ·
    refine ⟨rfl, (by decide), h1 (by omega)⟩
  ·
    refine ⟨rfl, (by decide), h0 (by omega)⟩
theorem s_X12_isLaw {v : Int} (h1 : (0 ≤ v ∧ v ≤ 3) → Q (some (vi 1)) F I) (h0 : ¬ ((0 ≤ v ∧ v ≤ 3)) → Q (some (vi 0)) F I) : CallN G (d + 1) kX12_isLaw [vi v] NP F I Q := by
  refine Call_wp (lv := [some (vi v)]) (by decide) ckX12_isLaw [] rfl rfl ?_
  refine s_X12_within (fun hw => ?_) (fun hw => ?_)
  ·
    refine ⟨rfl, (by decide), h1 (by omega)⟩
  ·
    refine ⟨rfl, (by decide), h0 (by omega)⟩
theorem s_X12_isMeter {v : Int} (h1 : (0 ≤ v ∧ v ≤ 5) → Q (some (vi 1)) F I) (h0 : ¬ ((0 ≤ v ∧ v ≤ 5)) → Q (some (vi 0)) F I) : CallN G (d + 1) kX12_isMeter [vi v] NP F I Q := by
  refine Call_wp (lv := [some (vi v)]) (by decide) ckX12_isMeter [] rfl rfl ?_
  refine s_X12_within (fun hw => ?_) (fun hw => ?_)
  ·
    refine ⟨rfl, (by decide), h1 (by omega)⟩
  ·
    refine ⟨rfl, (by decide), h0 (by omega)⟩
theorem s_X11_isStretch {v : Int} (h1 : (0 ≤ v ∧ v ≤ 999) → Q (some (vi 1)) F I) (h0 : ¬ ((0 ≤ v ∧ v ≤ 999)) → Q (some (vi 0)) F I) : CallN G (d + 1) kX11_isStretch [vi v] NP F I Q := by
  refine Call_wp (lv := [some (vi v)]) (by decide) ckX11_isStretch [] rfl rfl ?_
  refine s_X11_within (fun hw => ?_) (fun hw => ?_)
  ·
    refine ⟨rfl, (by decide), h1 (by omega)⟩
  ·
    refine ⟨rfl, (by decide), h0 (by omega)⟩
theorem s_X11_isTenths {v : Int} (h1 : (1 ≤ v ∧ v ≤ 9) → Q (some (vi 1)) F I) (h0 : ¬ ((1 ≤ v ∧ v ≤ 9)) → Q (some (vi 0)) F I) : CallN G (d + 1) kX11_isTenths [vi v] NP F I Q := by
  refine Call_wp (lv := [some (vi v)]) (by decide) ckX11_isTenths [] rfl rfl ?_
  refine s_X11_within (fun hw => ?_) (fun hw => ?_)
  ·
    refine ⟨rfl, (by decide), h1 (by omega)⟩
  ·
    refine ⟨rfl, (by decide), h0 (by omega)⟩
theorem s_X12_isSheet {v : Int} (h1 : (0 ≤ v ∧ v ≤ 3) → Q (some (vi 1)) F I) (h0 : ¬ ((0 ≤ v ∧ v ≤ 3)) → Q (some (vi 0)) F I) : CallN G (d + 1) kX12_isSheet [vi v] NP F I Q := by
  refine Call_wp (lv := [some (vi v)]) (by decide) ckX12_isSheet [] rfl rfl ?_
  refine s_X12_within (fun hw => ?_) (fun hw => ?_)
  ·
    refine ⟨rfl, (by decide), h1 (by omega)⟩
  ·
    refine ⟨rfl, (by decide), h0 (by omega)⟩
theorem s_X12_isProgram {v : Int} (h1 : (0 ≤ v ∧ v ≤ 3) → Q (some (vi 1)) F I) (h0 : ¬ ((0 ≤ v ∧ v ≤ 3)) → Q (some (vi 0)) F I) : CallN G (d + 1) kX12_isProgram [vr 235, vi v] NP F I Q := by
  refine Call_wp (lv := [some (vr 235), some (vi v)]) (by decide) ckX12_isProgram [] rfl rfl ?_
  refine s_X12_within (fun hw => ?_) (fun hw => ?_)
  ·
    refine ⟨rfl, (by decide), h1 (by omega)⟩
  ·
    refine ⟨rfl, (by decide), h0 (by omega)⟩
theorem s_X12_areTenths {v w : Int} (h1 : ((1 ≤ v ∧ v ≤ 9) ∧ (1 ≤ w ∧ w ≤ 9)) → Q (some (vi 1)) F I) (h0 : ¬ ((1 ≤ v ∧ v ≤ 9) ∧ (1 ≤ w ∧ w ≤ 9)) → Q (some (vi 0)) F I) : CallN G (d + 1) kX12_areTenths [vi v, vi w] NP F I Q := by
  refine Call_wp (lv := [some (vi v), some (vi w)]) (by decide) ckX12_areTenths [] rfl rfl ?_
  refine s_X12_within (fun hw => ?_) (fun hw => ?_)
  ·
    refine ⟨fun c => absurd c (by decide), fun _ => ?_⟩
    refine s_X12_within (fun hw => ?_) (fun hw => ?_)
    ·
      refine ⟨fun c => absurd c (by decide), fun _ => ?_⟩
      refine ⟨rfl, (by decide), h1 (by omega)⟩
    ·
      refine ⟨fun _ => ?_, fun c => absurd (by decide) c⟩
      refine ⟨rfl, (by decide), h0 (by omega)⟩
  ·
    refine ⟨fun _ => ?_, fun c => absurd (by decide) c⟩
    refine ⟨rfl, (by decide), h0 (by omega)⟩
theorem s_X11_refuse (hF : FS F) {e : Int} (he : 1 ≤ e ∧ e ≤ 6) (hQ : Q (some (vi (-1000000 - e))) F (uI I 203 e.toNat (wr (I 203 e.toNat + 1)))) : CallN G (d + 1) kX11_refuse [vr 0, vi e] NP F I Q := by
  refine Call_wp (lv := [some (vr 0), some (vi e)]) (by decide) ckX11_refuse [] rfl rfl ?_
  refine s_X11_within (fun hw => ?_) (fun hw => ?_)
  ·
    refine ⟨fun c => absurd c (by decide), fun _ => ?_⟩
    refine ⟨_, rfl, (by decide), ?_⟩
    refine fun w0 hw0 => ?_; obtain rfl : w0 = some 203 := hw0.symm.trans (hF.g rfl)
    refine ⟨_, rfl, (by decide), (by omega), (by omega), ?_⟩
    refine ⟨_, rfl, (by decide), (by omega), (by omega), ?_⟩
    have e1 : wr (-1000000 - e) = -1000000 - e := by unfold wr; omega
    refine ⟨rfl, ?_⟩
    first
      | (exfalso; omega)
      | (rw [e1]; exact hQ)
  ·
    refine ⟨fun _ => ?_, fun c => absurd (by decide) c⟩
    have e1 : wr (-1000000 - e) = -1000000 - e := by unfold wr; omega
    refine ⟨rfl, ?_⟩
    first
      | (exfalso; omega)
      | (rw [e1]; exact hQ)
theorem s_X11_orNone (hF : FS F) {v : Int} (h0 : v < 0 → Q (some (vi (-1000002))) F (uI I 203 2 (wr (I 203 2 + 1)))) (h1 : 0 ≤ v → Q (some (vi v)) F I) : CallN G (d + 2) kX11_orNone [vr 0, vi v] NP F I Q := by
  refine Call_wp (lv := [some (vr 0), some (vi v)]) (by decide) ckX11_orNone [] rfl rfl ?_
  refine ⟨fun c1 => ?_, fun c1 => ?_⟩
  ·
    first
      | exact ⟨rfl, h0 (by omega)⟩
      | exact ⟨rfl, h1 (by omega)⟩
  ·
    refine ⟨⟨_, rfl, (by decide)⟩, ?_⟩
    refine s_X11_refuse hF (e := 2) (by decide) ?_
    first
      | exact ⟨rfl, h0 (by omega)⟩
      | exact ⟨rfl, h1 (by omega)⟩
theorem s_X11_sheetAt (hF : FS F) {v : Int} (h1 : (0 ≤ v ∧ v ≤ 3) → Q (some (vr (227 + 2 * v.toNat))) F I) (h0 : ¬ (0 ≤ v ∧ v ≤ 3) → Q (some vn) F I) : CallN G (d + 1) kX11_sheetAt [vr 0, vi v] NP F I Q := by
  refine Call_wp (lv := [some (vr 0), some (vi v)]) (by decide) ckX11_sheetAt [] rfl rfl ?_
  refine s_X11_within (fun hw => ?_) (fun hw => ?_)
  ·
    refine ⟨fun c => absurd c (by decide), fun _ => ?_⟩
    refine ⟨_, rfl, (by decide), ?_⟩
    refine fun w0 hw0 => ?_; obtain rfl : w0 = some 204 := hw0.symm.trans (hF.g rfl)
    refine ⟨_, _, (by decide), rfl, (by decide), (by omega), (by omega), ?_⟩
    refine fun w0 hw0 => ?_; obtain rfl : w0 = some (227 + 2 * Int.toNat v) := hw0.symm.trans (FS_sheet hF (by omega))
    exact ⟨rfl, h1 hw⟩
  ·
    refine ⟨fun _ => ?_, fun c => absurd (by decide) c⟩
    exact ⟨rfl, h0 hw⟩
theorem s_X8_pieceAt (hF : FS F) {S : Nat} (hS : S = 1 ∨ S = 102) {v : Int} (h1 : (0 ≤ v ∧ v < I S 1 ∧ v < 14) → Q (some (vr (S + 19 + 5 * v.toNat))) F I) (h0 : ¬ (0 ≤ v ∧ v < I S 1 ∧ v < 14) → Q (some vn) F I) : CallN G d kX8_pieceAt [vr S, vi v] NP F I Q := by
  have hP := FS_S hF hS
  refine Call_wp (lv := [some (vr S), some (vi v)]) (by decide) ckX8_pieceAt [] rfl rfl ?_
  refine ⟨fun c1 => ?_, fun c1 => ?_⟩
  ·
    exact ⟨rfl, h0 (by omega)⟩
  ·
    refine ⟨_, hP.1, (by have := hP.2.2.2.2.2.2.2.1; omega), ?_⟩
    refine ⟨fun c2 => ?_, fun c2 => ?_⟩
    ·
      exact ⟨rfl, h0 (by omega)⟩
    ·
      refine ⟨fun c3 => ?_, fun c3 => ?_⟩
      ·
        exact ⟨rfl, h0 (by omega)⟩
      ·
        refine ⟨_, hP.1, (by have := hP.2.2.2.2.2.2.2.1; omega), ?_⟩
        refine fun w0 hw0 => ?_; obtain rfl : w0 = some (S + 1) := hw0.symm.trans hP.2.2.2.2.2.2.2.2.1
        refine ⟨_, _, (by decide), hP.2.1, (by have := hP.2.2.2.2.2.2.2.1; omega), (by omega), (by omega), ?_⟩
        refine fun w0 hw0 => ?_; obtain rfl : w0 = some (S + 19 + 5 * Int.toNat v) := hw0.symm.trans (FS_pc hF hS (by omega))
        exact ⟨rfl, h1 (by omega)⟩
theorem s_X8_programAt (hF : FS F) {S : Nat} (hS : S = 1 ∨ S = 102) {v : Int} (h1 : (0 ≤ v ∧ v < 4) → Q (some (vr (S + 89 + 3 * v.toNat))) F I) (h0 : ¬ (0 ≤ v ∧ v < 4) → Q (some vn) F I) : CallN G d kX8_programAt [vr S, vi v] NP F I Q := by
  have hP := FS_S hF hS
  refine Call_wp (lv := [some (vr S), some (vi v)]) (by decide) ckX8_programAt [] rfl rfl ?_
  refine ⟨fun c1 => ?_, fun c1 => ?_⟩
  ·
    exact ⟨rfl, h0 (by omega)⟩
  ·
    refine ⟨fun c2 => ?_, fun c2 => ?_⟩
    ·
      exact ⟨rfl, h0 (by omega)⟩
    ·
      refine ⟨_, hP.1, (by have := hP.2.2.2.2.2.2.2.1; omega), ?_⟩
      refine fun w0 hw0 => ?_; obtain rfl : w0 = some (S + 2) := hw0.symm.trans hP.2.2.2.2.2.2.2.2.2.1
      refine ⟨_, _, (by decide), hP.2.2.1, (by have := hP.2.2.2.2.2.2.2.1; omega), (by omega), (by omega), ?_⟩
      refine fun w0 hw0 => ?_; obtain rfl : w0 = some (S + 89 + 3 * Int.toNat v) := hw0.symm.trans (FS_pg hF hS (by omega))
      exact ⟨rfl, h1 (by omega)⟩
theorem s_X12_finding (hF : FS F) {v : Int} (hv : -1000006 ≤ v ∧ v ≤ -1000001) (hQ : Q (some (vi v)) F (uI I 238 (-1000000 - v).toNat (wr (I 238 (-1000000 - v).toNat + 1)))) : CallN G d kX12_finding [vr 235, vi v] NP F I Q := by
  refine Call_wp (lv := [some (vr 235), some (vi v)]) (by decide) ckX12_finding [] rfl rfl ?_
  refine ⟨_, rfl, (by decide), ?_⟩
  refine fun w0 hw0 => ?_; obtain rfl : w0 = some 238 := hw0.symm.trans (hF.g rfl)
  refine ⟨_, rfl, (by decide), (by unfold wr; omega), (by unfold wr; omega), ?_⟩
  refine ⟨_, rfl, (by decide), (by unfold wr; omega), (by unfold wr; omega), ?_⟩
  refine ⟨rfl, ?_⟩
  rw [show wr (-1000000 - v) = -1000000 - v by unfold wr; omega]
  exact hQ
theorem s_X12_is (hF : FS F) {v w : Int} (hw : 0 ≤ w ∧ w < 1340) (hc : 0 ≤ I 236 w.toNat ∧ I 236 w.toNat < 1000000) (h1 : (0 ≤ v ∧ v < I 236 w.toNat) → Q (some (vi 1)) F I) (h0 : ¬ (0 ≤ v ∧ v < I 236 w.toNat) → Q (some (vi 0)) F I) : CallN G (d + 1) kX12_is [vr 235, vi v, vi w] NP F I Q := by
  refine Call_wp (lv := [some (vr 235), some (vi v), some (vi w)]) (by decide) ckX12_is [] rfl rfl ?_
  refine ⟨_, rfl, (by decide), ?_⟩
  refine fun w0 hw0 => ?_; obtain rfl : w0 = some 236 := hw0.symm.trans (hF.g rfl)
  refine ⟨_, rfl, (by decide), (by omega), (by omega), ?_⟩
  refine s_X12_within (fun hw => ?_) (fun hw => ?_)
  ·
    have hb : wr (I 236 w.toNat - 1) = I 236 w.toNat - 1 := by unfold wr; omega
    refine ⟨rfl, (by decide), h1 (by omega)⟩
  ·
    have hb : wr (I 236 w.toNat - 1) = I 236 w.toNat - 1 := by unfold wr; omega
    refine ⟨rfl, (by decide), h0 (by omega)⟩
end SM
