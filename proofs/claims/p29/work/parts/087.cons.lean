/-! the constructors. Own work (scripts laid by wip/pm/walkc.py). -/
section C
variable {G : pG} {d : Nat} {F : pF} {I : pI} {Q : Option pV → pF → pI → Prop}
def F_X6_init (F : pF) (q n : Nat) : pF := (uF (zF (uF (zF F n) q 0 (some n)) (n + 1)) q 1 (some (n + 1)))
def I_X6_init (I : pI) (q n : Nat) : pI := (uI (uI (uI (uI (zI (zI I n) (n + 1)) q 2 0) q 3 0) q 4 0) q 5 0)
theorem s_X6_init {q n : Nat} (hq : lay q = (6, 6)) (hqn : q < n) (hx : n + 2 ≤ EXT) (h0 : lay n = (100, 24)) (h1 : lay (n + 1) = (100, 24)) (hQ : Q none (F_X6_init F q n) (I_X6_init I q n)) : CallN G (d + 1) kX6_init [vr q] n F I Q := by
  refine Call_wp (lv := [some (vr q)]) (by decide) ckX6_init [] rfl rfl ?_
  refine ⟨Nat.le_of_ble_eq_true rfl, (by omega), ?_⟩
  refine ⟨h0, (by decide), (by decide), (by show (n + 1) ≤ n + 2; omega), (by omega), ?_⟩
  refine ⟨_, hq, (by omega), ?_⟩
  refine ⟨h1, (by decide), (by decide), (by show (n + 2) ≤ n + 2; omega), (by omega), ?_⟩
  refine ⟨_, hq, (by omega), ?_⟩
  refine ⟨_, hq, (by omega), ?_⟩
  refine ⟨_, hq, (by omega), ?_⟩
  refine ⟨_, hq, (by omega), ?_⟩
  refine ⟨_, hq, (by omega), ?_⟩
  exact ⟨rfl, hQ⟩
def F_X5_init (F : pF) (q n : Nat) : pF := (uF (zF (uF (zF F n) q 1 (some n)) (n + 1)) q 2 (some (n + 1)))
def I_X5_init (I : pI) (q n : Nat) : pI := (uI (uI (zI (zI (uI I q 0 0) n) (n + 1)) q 3 0) q 4 0)
theorem s_X5_init {q n : Nat} (hq : lay q = (5, 5)) (hqn : q < n) (hx : n + 2 ≤ EXT) (h0 : lay n = (100, 32)) (h1 : lay (n + 1) = (100, 32)) (hQ : Q none (F_X5_init F q n) (I_X5_init I q n)) : CallN G (d + 1) kX5_init [vr q] n F I Q := by
  refine Call_wp (lv := [some (vr q)]) (by decide) ckX5_init [] rfl rfl ?_
  refine ⟨Nat.le_of_ble_eq_true rfl, (by omega), ?_⟩
  refine ⟨_, hq, (by omega), (by decide), ?_⟩
  refine ⟨h0, (by decide), (by decide), (by show (n + 1) ≤ n + 2; omega), (by omega), ?_⟩
  refine ⟨_, hq, (by omega), ?_⟩
  refine ⟨h1, (by decide), (by decide), (by show (n + 2) ≤ n + 2; omega), (by omega), ?_⟩
  refine ⟨_, hq, (by omega), ?_⟩
  refine ⟨_, hq, (by omega), ?_⟩
  refine ⟨_, hq, (by omega), ?_⟩
  exact ⟨rfl, hQ⟩
def F_X7_init (F : pF) (q n : Nat) : pF := (uF (zF F n) q 2 (some n))
def I_X7_init (I : pI) (q n : Nat) : pI := (zI (uI (uI I q 0 0) q 1 0) n)
theorem s_X7_init {q n : Nat} (hq : lay q = (7, 3)) (hqn : q < n) (hx : n + 1 ≤ EXT) (h0 : lay n = (100, 24)) (hQ : Q none (F_X7_init F q n) (I_X7_init I q n)) : CallN G (d + 1) kX7_init [vr q] n F I Q := by
  refine Call_wp (lv := [some (vr q)]) (by decide) ckX7_init [] rfl rfl ?_
  refine ⟨Nat.le_of_ble_eq_true rfl, (by omega), ?_⟩
  refine ⟨_, hq, (by omega), ?_⟩
  refine ⟨_, hq, (by omega), ?_⟩
  refine ⟨h0, (by decide), (by decide), (by show (n + 1) ≤ n + 1; omega), (by omega), ?_⟩
  refine ⟨_, hq, (by omega), ?_⟩
  exact ⟨rfl, hQ⟩
def F_X4_init (F : pF) (q n : Nat) : pF := (uF (F_X6_init (zF (uF (zF F n) q 3 (some n)) (n + 1)) (n + 1) (n + 2)) q 5 (some (n + 1)))
def I_X4_init (I : pI) (q n : Nat) : pI := (I_X6_init (zI (uI (zI (uI (uI (uI I q 0 0) q 1 0) q 2 1) n) q 4 0) (n + 1)) (n + 1) (n + 2))
theorem s_X4_init {q n : Nat} (hq : lay q = (4, 6)) (hqn : q < n) (hx : n + 4 ≤ EXT) (h0 : lay n = (100, 12)) (h1 : lay (n + 1) = (6, 6)) (h2 : lay (n + 2) = (100, 24)) (h3 : lay (n + 3) = (100, 24)) (hQ : Q none (F_X4_init F q n) (I_X4_init I q n)) : CallN G (d + 2) kX4_init [vr q] n F I Q := by
  refine Call_wp (lv := [some (vr q)]) (by decide) ckX4_init [] rfl rfl ?_
  refine ⟨Nat.le_of_ble_eq_true rfl, (by omega), ?_⟩
  refine ⟨_, hq, (by omega), ?_⟩
  refine ⟨_, hq, (by omega), ?_⟩
  refine ⟨_, hq, (by omega), ?_⟩
  refine ⟨h0, (by decide), (by decide), (by show (n + 1) ≤ n + 4; omega), (by omega), ?_⟩
  refine ⟨_, hq, (by omega), ?_⟩
  refine ⟨_, hq, (by omega), ?_⟩
  refine ⟨h1, (by show (n + 2) ≤ n + 4; omega), (by omega), ?_⟩
  refine ⟨Nat.le_of_ble_eq_true rfl, (by show (n + 2) + 2 ≤ n + 4; omega), ?_⟩
  refine s_X6_init (q := (n + 1)) (n := (n + 2)) h1 (by omega) (by omega) h2 h3 ?_
  refine ⟨_, hq, (by omega), ?_⟩
  exact ⟨rfl, hQ⟩
set_option maxRecDepth 100000 in
def F_X2_init_7 (F : pF) : pF := (uF (zF (uF (zF (uF (zF (uF (zF F 8) 7 0 (some 8)) 9) 7 1 (some 9)) 10) 7 2 (some 10)) 11) 7 3 (some 11))
set_option maxRecDepth 100000 in
def I_X2_init_7 (I : pI) : pI := (zI (uI (uI (uI (uI (uI (uI (zI (uI (uI (uI (uI (uI (uI (zI (zI I 8) 9) 9 0 1) 9 1 1) 9 2 1) 9 3 1) 9 4 1) 9 5 1) 10) 10 0 1) 10 1 1) 10 2 1) 10 3 1) 10 4 1) 10 5 1) 11)
set_option maxHeartbeats 8000000 in
set_option maxRecDepth 100000 in
theorem s_X2_init_7 (hQ : Q none (F_X2_init_7 F) (I_X2_init_7 I)) : CallN G (d + 1) kX2_init [vr 7] 8 F I Q := by
  refine Call_wp (lv := [some (vr 7)]) (by decide) ckX2_init [] rfl rfl ?_
  refine ⟨Nat.le_of_ble_eq_true rfl, (by omega), ?_⟩
  refine ⟨rfl, (by decide), (by decide), (by decide), (by decide), ?_⟩
  refine ⟨_, rfl, (by decide), ?_⟩
  refine ⟨rfl, (by decide), (by decide), (by decide), (by decide), ?_⟩
  refine ⟨_, rfl, (by decide), (by decide), (by decide), ?_⟩
  refine ⟨_, rfl, (by decide), (by decide), (by decide), ?_⟩
  refine ⟨_, rfl, (by decide), (by decide), (by decide), ?_⟩
  refine ⟨_, rfl, (by decide), (by decide), (by decide), ?_⟩
  refine ⟨_, rfl, (by decide), (by decide), (by decide), ?_⟩
  refine ⟨_, rfl, (by decide), (by decide), (by decide), ?_⟩
  refine ⟨_, rfl, (by decide), ?_⟩
  refine ⟨rfl, (by decide), (by decide), (by decide), (by decide), ?_⟩
  refine ⟨_, rfl, (by decide), (by decide), (by decide), ?_⟩
  refine ⟨_, rfl, (by decide), (by decide), (by decide), ?_⟩
  refine ⟨_, rfl, (by decide), (by decide), (by decide), ?_⟩
  refine ⟨_, rfl, (by decide), (by decide), (by decide), ?_⟩
  refine ⟨_, rfl, (by decide), (by decide), (by decide), ?_⟩
  refine ⟨_, rfl, (by decide), (by decide), (by decide), ?_⟩
  refine ⟨_, rfl, (by decide), ?_⟩
  refine ⟨rfl, (by decide), (by decide), (by decide), (by decide), ?_⟩
  refine ⟨_, rfl, (by decide), ?_⟩
  exact ⟨rfl, hQ⟩
set_option maxRecDepth 100000 in
def F_X0_init_12 (F : pF) : pF := (uF (zF (uF (zF (uF (zF (uF (zF (uF (zF (uF (zF F 13) 12 0 (some 13)) 14) 12 1 (some 14)) 15) 12 2 (some 15)) 16) 12 3 (some 16)) 17) 12 4 (some 17)) 18) 12 5 (some 18))
set_option maxRecDepth 100000 in
def I_X0_init_12 (I : pI) : pI := (uI (zI (zI (zI (zI (zI (zI I 13) 14) 15) 16) 17) 18) 12 6 0)
set_option maxHeartbeats 8000000 in
set_option maxRecDepth 100000 in
theorem s_X0_init_12 (hQ : Q none (F_X0_init_12 F) (I_X0_init_12 I)) : CallN G (d + 1) kX0_init [vr 12] 13 F I Q := by
  refine Call_wp (lv := [some (vr 12)]) (by decide) ckX0_init [] rfl rfl ?_
  refine ⟨Nat.le_of_ble_eq_true rfl, (by omega), ?_⟩
  refine ⟨rfl, (by decide), (by decide), (by decide), (by decide), ?_⟩
  refine ⟨_, rfl, (by decide), ?_⟩
  refine ⟨rfl, (by decide), (by decide), (by decide), (by decide), ?_⟩
  refine ⟨_, rfl, (by decide), ?_⟩
  refine ⟨rfl, (by decide), (by decide), (by decide), (by decide), ?_⟩
  refine ⟨_, rfl, (by decide), ?_⟩
  refine ⟨rfl, (by decide), (by decide), (by decide), (by decide), ?_⟩
  refine ⟨_, rfl, (by decide), ?_⟩
  refine ⟨rfl, (by decide), (by decide), (by decide), (by decide), ?_⟩
  refine ⟨_, rfl, (by decide), ?_⟩
  refine ⟨rfl, (by decide), (by decide), (by decide), (by decide), ?_⟩
  refine ⟨_, rfl, (by decide), ?_⟩
  refine ⟨_, rfl, (by decide), ?_⟩
  exact ⟨rfl, hQ⟩
set_option maxRecDepth 100000 in
def F_X8_init_1 (F : pF) : pF := (uF (F_X5_init (zF (uF (F_X5_init (zF (uF (F_X5_init (zF (uF (F_X5_init (zF (uF (F_X4_init (zF (uF (F_X4_init (zF (uF (F_X4_init (zF (uF (F_X4_init (zF (uF (F_X4_init (zF (uF (F_X4_init (zF (uF (F_X4_init (zF (uF (F_X4_init (zF (uF (F_X4_init (zF (uF (F_X4_init (zF (uF (F_X4_init (zF (uF (F_X4_init (zF (uF (F_X4_init (zF (uF (F_X4_init (zF (uF (zF (uF (F_X0_init_12 (zF (uF (F_X2_init_7 (zF (uF (zF (uF (zF (uF (zF (uF (zF (uF (zF F 2) 1 0 (some 2)) 3) 1 2 (some 3)) 4) 1 3 (some 4)) 5) 1 4 (some 5)) 6) 1 6 (some 6)) 7)) 1 8 (some 7)) 12)) 1 9 (some 12)) 19) 1 10 (some 19)) 20) 20 21) 2 0 (some 20)) 25) 25 26) 2 1 (some 25)) 30) 30 31) 2 2 (some 30)) 35) 35 36) 2 3 (some 35)) 40) 40 41) 2 4 (some 40)) 45) 45 46) 2 5 (some 45)) 50) 50 51) 2 6 (some 50)) 55) 55 56) 2 7 (some 55)) 60) 60 61) 2 8 (some 60)) 65) 65 66) 2 9 (some 65)) 70) 70 71) 2 10 (some 70)) 75) 75 76) 2 11 (some 75)) 80) 80 81) 2 12 (some 80)) 85) 85 86) 2 13 (some 85)) 90) 90 91) 3 0 (some 90)) 93) 93 94) 3 1 (some 93)) 96) 96 97) 3 2 (some 96)) 99) 99 100) 3 3 (some 99))
set_option maxRecDepth 100000 in
def I_X8_init_1 (I : pI) : pI := (I_X5_init (zI (I_X5_init (zI (I_X5_init (zI (I_X5_init (zI (I_X4_init (zI (I_X4_init (zI (I_X4_init (zI (I_X4_init (zI (I_X4_init (zI (I_X4_init (zI (I_X4_init (zI (I_X4_init (zI (I_X4_init (zI (I_X4_init (zI (I_X4_init (zI (I_X4_init (zI (I_X4_init (zI (I_X4_init (zI (uI (zI (I_X0_init_12 (zI (I_X2_init_7 (zI (uI (zI (uI (zI (uI (uI (uI (uI (uI (zI (zI (uI (zI I 2) 1 1 0) 3) 4) 4 0 99999) 4 1 999) 4 2 99999) 4 3 0) 4 4 0) 5) 1 5 0) 6) 1 7 0) 7)) 12)) 19) 1 11 0) 20) 20 21) 25) 25 26) 30) 30 31) 35) 35 36) 40) 40 41) 45) 45 46) 50) 50 51) 55) 55 56) 60) 60 61) 65) 65 66) 70) 70 71) 75) 75 76) 80) 80 81) 85) 85 86) 90) 90 91) 93) 93 94) 96) 96 97) 99) 99 100)
set_option maxHeartbeats 8000000 in
set_option maxRecDepth 100000 in
theorem s_X8_init_1 (hQ : Q none (F_X8_init_1 F) (I_X8_init_1 I)) : CallN G (d + 3) kX8_init [vr 1] 2 F I Q := by
  refine Call_wp (lv := [some (vr 1), none]) (by decide) ckX8_init [] rfl rfl ?_
  refine ⟨Nat.le_of_ble_eq_true rfl, (by omega), ?_⟩
  refine ⟨rfl, (by decide), (by decide), (by decide), (by decide), ?_⟩
  refine ⟨_, rfl, (by decide), ?_⟩
  refine ⟨_, rfl, (by decide), ?_⟩
  refine ⟨rfl, (by decide), (by decide), (by decide), (by decide), ?_⟩
  refine ⟨_, rfl, (by decide), ?_⟩
  refine ⟨rfl, (by decide), (by decide), (by decide), (by decide), ?_⟩
  refine ⟨_, rfl, (by decide), (by decide), (by decide), ?_⟩
  refine ⟨_, rfl, (by decide), (by decide), (by decide), ?_⟩
  refine ⟨_, rfl, (by decide), (by decide), (by decide), ?_⟩
  refine ⟨_, rfl, (by decide), (by decide), (by decide), ?_⟩
  refine ⟨_, rfl, (by decide), (by decide), (by decide), ?_⟩
  refine ⟨_, rfl, (by decide), ?_⟩
  refine ⟨rfl, (by decide), (by decide), (by decide), (by decide), ?_⟩
  refine ⟨_, rfl, (by decide), ?_⟩
  refine ⟨_, rfl, (by decide), ?_⟩
  refine ⟨rfl, (by decide), (by decide), (by decide), (by decide), ?_⟩
  refine ⟨_, rfl, (by decide), ?_⟩
  refine ⟨_, rfl, (by decide), (by decide), ?_⟩
  refine ⟨rfl, (by decide), (by decide), ?_⟩
  refine ⟨Nat.le_of_ble_eq_true rfl, (by decide), ?_⟩
  refine s_X2_init_7 ?_
  refine ⟨_, rfl, (by decide), ?_⟩
  refine ⟨rfl, (by decide), (by decide), ?_⟩
  refine ⟨Nat.le_of_ble_eq_true rfl, (by decide), ?_⟩
  refine s_X0_init_12 ?_
  refine ⟨_, rfl, (by decide), ?_⟩
  refine ⟨rfl, (by decide), (by decide), (by decide), (by decide), ?_⟩
  refine ⟨_, rfl, (by decide), ?_⟩
  refine ⟨_, rfl, (by decide), ?_⟩
  refine ⟨fun c => absurd c (by decide), fun _ => ?_⟩
  refine ⟨_, rfl, (by decide), ?_⟩
  refine fun w0 hw0 => ?_; obtain rfl : w0 = some 2 := hw0.symm.trans rfl
  refine ⟨rfl, (by decide), (by decide), ?_⟩
  refine ⟨Nat.le_of_ble_eq_true rfl, (by decide), ?_⟩
  refine s_X4_init (q := 20) (n := 21) rfl (by decide) (by decide) rfl rfl rfl rfl ?_
  refine ⟨_, _, rfl, (by decide), (by decide), (by decide), Or.inr ⟨_, _, rfl, (by decide), rfl, (by decide)⟩, ?_⟩
  refine ⟨fun c => absurd c (by decide), fun _ => ?_⟩
  refine ⟨_, rfl, (by decide), ?_⟩
  refine fun w0 hw0 => ?_; obtain rfl : w0 = some 2 := hw0.symm.trans rfl
  refine ⟨rfl, (by decide), (by decide), ?_⟩
  refine ⟨Nat.le_of_ble_eq_true rfl, (by decide), ?_⟩
  refine s_X4_init (q := 25) (n := 26) rfl (by decide) (by decide) rfl rfl rfl rfl ?_
  refine ⟨_, _, rfl, (by decide), (by decide), (by decide), Or.inr ⟨_, _, rfl, (by decide), rfl, (by decide)⟩, ?_⟩
  refine ⟨fun c => absurd c (by decide), fun _ => ?_⟩
  refine ⟨_, rfl, (by decide), ?_⟩
  refine fun w0 hw0 => ?_; obtain rfl : w0 = some 2 := hw0.symm.trans rfl
  refine ⟨rfl, (by decide), (by decide), ?_⟩
  refine ⟨Nat.le_of_ble_eq_true rfl, (by decide), ?_⟩
  refine s_X4_init (q := 30) (n := 31) rfl (by decide) (by decide) rfl rfl rfl rfl ?_
  refine ⟨_, _, rfl, (by decide), (by decide), (by decide), Or.inr ⟨_, _, rfl, (by decide), rfl, (by decide)⟩, ?_⟩
  refine ⟨fun c => absurd c (by decide), fun _ => ?_⟩
  refine ⟨_, rfl, (by decide), ?_⟩
  refine fun w0 hw0 => ?_; obtain rfl : w0 = some 2 := hw0.symm.trans rfl
  refine ⟨rfl, (by decide), (by decide), ?_⟩
  refine ⟨Nat.le_of_ble_eq_true rfl, (by decide), ?_⟩
  refine s_X4_init (q := 35) (n := 36) rfl (by decide) (by decide) rfl rfl rfl rfl ?_
  refine ⟨_, _, rfl, (by decide), (by decide), (by decide), Or.inr ⟨_, _, rfl, (by decide), rfl, (by decide)⟩, ?_⟩
  refine ⟨fun c => absurd c (by decide), fun _ => ?_⟩
  refine ⟨_, rfl, (by decide), ?_⟩
  refine fun w0 hw0 => ?_; obtain rfl : w0 = some 2 := hw0.symm.trans rfl
  refine ⟨rfl, (by decide), (by decide), ?_⟩
  refine ⟨Nat.le_of_ble_eq_true rfl, (by decide), ?_⟩
  refine s_X4_init (q := 40) (n := 41) rfl (by decide) (by decide) rfl rfl rfl rfl ?_
  refine ⟨_, _, rfl, (by decide), (by decide), (by decide), Or.inr ⟨_, _, rfl, (by decide), rfl, (by decide)⟩, ?_⟩
  refine ⟨fun c => absurd c (by decide), fun _ => ?_⟩
  refine ⟨_, rfl, (by decide), ?_⟩
  refine fun w0 hw0 => ?_; obtain rfl : w0 = some 2 := hw0.symm.trans rfl
  refine ⟨rfl, (by decide), (by decide), ?_⟩
  refine ⟨Nat.le_of_ble_eq_true rfl, (by decide), ?_⟩
  refine s_X4_init (q := 45) (n := 46) rfl (by decide) (by decide) rfl rfl rfl rfl ?_
  refine ⟨_, _, rfl, (by decide), (by decide), (by decide), Or.inr ⟨_, _, rfl, (by decide), rfl, (by decide)⟩, ?_⟩
  refine ⟨fun c => absurd c (by decide), fun _ => ?_⟩
  refine ⟨_, rfl, (by decide), ?_⟩
  refine fun w0 hw0 => ?_; obtain rfl : w0 = some 2 := hw0.symm.trans rfl
  refine ⟨rfl, (by decide), (by decide), ?_⟩
  refine ⟨Nat.le_of_ble_eq_true rfl, (by decide), ?_⟩
  refine s_X4_init (q := 50) (n := 51) rfl (by decide) (by decide) rfl rfl rfl rfl ?_
  refine ⟨_, _, rfl, (by decide), (by decide), (by decide), Or.inr ⟨_, _, rfl, (by decide), rfl, (by decide)⟩, ?_⟩
  refine ⟨fun c => absurd c (by decide), fun _ => ?_⟩
  refine ⟨_, rfl, (by decide), ?_⟩
  refine fun w0 hw0 => ?_; obtain rfl : w0 = some 2 := hw0.symm.trans rfl
  refine ⟨rfl, (by decide), (by decide), ?_⟩
  refine ⟨Nat.le_of_ble_eq_true rfl, (by decide), ?_⟩
  refine s_X4_init (q := 55) (n := 56) rfl (by decide) (by decide) rfl rfl rfl rfl ?_
  refine ⟨_, _, rfl, (by decide), (by decide), (by decide), Or.inr ⟨_, _, rfl, (by decide), rfl, (by decide)⟩, ?_⟩
  refine ⟨fun c => absurd c (by decide), fun _ => ?_⟩
  refine ⟨_, rfl, (by decide), ?_⟩
  refine fun w0 hw0 => ?_; obtain rfl : w0 = some 2 := hw0.symm.trans rfl
  refine ⟨rfl, (by decide), (by decide), ?_⟩
  refine ⟨Nat.le_of_ble_eq_true rfl, (by decide), ?_⟩
  refine s_X4_init (q := 60) (n := 61) rfl (by decide) (by decide) rfl rfl rfl rfl ?_
  refine ⟨_, _, rfl, (by decide), (by decide), (by decide), Or.inr ⟨_, _, rfl, (by decide), rfl, (by decide)⟩, ?_⟩
  refine ⟨fun c => absurd c (by decide), fun _ => ?_⟩
  refine ⟨_, rfl, (by decide), ?_⟩
  refine fun w0 hw0 => ?_; obtain rfl : w0 = some 2 := hw0.symm.trans rfl
  refine ⟨rfl, (by decide), (by decide), ?_⟩
  refine ⟨Nat.le_of_ble_eq_true rfl, (by decide), ?_⟩
  refine s_X4_init (q := 65) (n := 66) rfl (by decide) (by decide) rfl rfl rfl rfl ?_
  refine ⟨_, _, rfl, (by decide), (by decide), (by decide), Or.inr ⟨_, _, rfl, (by decide), rfl, (by decide)⟩, ?_⟩
  refine ⟨fun c => absurd c (by decide), fun _ => ?_⟩
  refine ⟨_, rfl, (by decide), ?_⟩
  refine fun w0 hw0 => ?_; obtain rfl : w0 = some 2 := hw0.symm.trans rfl
  refine ⟨rfl, (by decide), (by decide), ?_⟩
  refine ⟨Nat.le_of_ble_eq_true rfl, (by decide), ?_⟩
  refine s_X4_init (q := 70) (n := 71) rfl (by decide) (by decide) rfl rfl rfl rfl ?_
  refine ⟨_, _, rfl, (by decide), (by decide), (by decide), Or.inr ⟨_, _, rfl, (by decide), rfl, (by decide)⟩, ?_⟩
  refine ⟨fun c => absurd c (by decide), fun _ => ?_⟩
  refine ⟨_, rfl, (by decide), ?_⟩
  refine fun w0 hw0 => ?_; obtain rfl : w0 = some 2 := hw0.symm.trans rfl
  refine ⟨rfl, (by decide), (by decide), ?_⟩
  refine ⟨Nat.le_of_ble_eq_true rfl, (by decide), ?_⟩
  refine s_X4_init (q := 75) (n := 76) rfl (by decide) (by decide) rfl rfl rfl rfl ?_
  refine ⟨_, _, rfl, (by decide), (by decide), (by decide), Or.inr ⟨_, _, rfl, (by decide), rfl, (by decide)⟩, ?_⟩
  refine ⟨fun c => absurd c (by decide), fun _ => ?_⟩
  refine ⟨_, rfl, (by decide), ?_⟩
  refine fun w0 hw0 => ?_; obtain rfl : w0 = some 2 := hw0.symm.trans rfl
  refine ⟨rfl, (by decide), (by decide), ?_⟩
  refine ⟨Nat.le_of_ble_eq_true rfl, (by decide), ?_⟩
  refine s_X4_init (q := 80) (n := 81) rfl (by decide) (by decide) rfl rfl rfl rfl ?_
  refine ⟨_, _, rfl, (by decide), (by decide), (by decide), Or.inr ⟨_, _, rfl, (by decide), rfl, (by decide)⟩, ?_⟩
  refine ⟨fun c => absurd c (by decide), fun _ => ?_⟩
  refine ⟨_, rfl, (by decide), ?_⟩
  refine fun w0 hw0 => ?_; obtain rfl : w0 = some 2 := hw0.symm.trans rfl
  refine ⟨rfl, (by decide), (by decide), ?_⟩
  refine ⟨Nat.le_of_ble_eq_true rfl, (by decide), ?_⟩
  refine s_X4_init (q := 85) (n := 86) rfl (by decide) (by decide) rfl rfl rfl rfl ?_
  refine ⟨_, _, rfl, (by decide), (by decide), (by decide), Or.inr ⟨_, _, rfl, (by decide), rfl, (by decide)⟩, ?_⟩
  refine ⟨fun _ => ?_, fun c => absurd (by decide) c⟩
  refine ⟨fun c => absurd c (by decide), fun _ => ?_⟩
  refine ⟨_, rfl, (by decide), ?_⟩
  refine fun w0 hw0 => ?_; obtain rfl : w0 = some 3 := hw0.symm.trans rfl
  refine ⟨rfl, (by decide), (by decide), ?_⟩
  refine ⟨Nat.le_of_ble_eq_true rfl, (by decide), ?_⟩
  refine s_X5_init (q := 90) (n := 91) rfl (by decide) (by decide) rfl rfl ?_
  refine ⟨_, _, rfl, (by decide), (by decide), (by decide), Or.inr ⟨_, _, rfl, (by decide), rfl, (by decide)⟩, ?_⟩
  refine ⟨fun c => absurd c (by decide), fun _ => ?_⟩
  refine ⟨_, rfl, (by decide), ?_⟩
  refine fun w0 hw0 => ?_; obtain rfl : w0 = some 3 := hw0.symm.trans rfl
  refine ⟨rfl, (by decide), (by decide), ?_⟩
  refine ⟨Nat.le_of_ble_eq_true rfl, (by decide), ?_⟩
  refine s_X5_init (q := 93) (n := 94) rfl (by decide) (by decide) rfl rfl ?_
  refine ⟨_, _, rfl, (by decide), (by decide), (by decide), Or.inr ⟨_, _, rfl, (by decide), rfl, (by decide)⟩, ?_⟩
  refine ⟨fun c => absurd c (by decide), fun _ => ?_⟩
  refine ⟨_, rfl, (by decide), ?_⟩
  refine fun w0 hw0 => ?_; obtain rfl : w0 = some 3 := hw0.symm.trans rfl
  refine ⟨rfl, (by decide), (by decide), ?_⟩
  refine ⟨Nat.le_of_ble_eq_true rfl, (by decide), ?_⟩
  refine s_X5_init (q := 96) (n := 97) rfl (by decide) (by decide) rfl rfl ?_
  refine ⟨_, _, rfl, (by decide), (by decide), (by decide), Or.inr ⟨_, _, rfl, (by decide), rfl, (by decide)⟩, ?_⟩
  refine ⟨fun c => absurd c (by decide), fun _ => ?_⟩
  refine ⟨_, rfl, (by decide), ?_⟩
  refine fun w0 hw0 => ?_; obtain rfl : w0 = some 3 := hw0.symm.trans rfl
  refine ⟨rfl, (by decide), (by decide), ?_⟩
  refine ⟨Nat.le_of_ble_eq_true rfl, (by decide), ?_⟩
  refine s_X5_init (q := 99) (n := 100) rfl (by decide) (by decide) rfl rfl ?_
  refine ⟨_, _, rfl, (by decide), (by decide), (by decide), Or.inr ⟨_, _, rfl, (by decide), rfl, (by decide)⟩, ?_⟩
  refine ⟨fun _ => ?_, fun c => absurd (by decide) c⟩
  exact ⟨rfl, hQ⟩
set_option maxRecDepth 100000 in
def F_X2_init_108 (F : pF) : pF := (uF (zF (uF (zF (uF (zF (uF (zF F 109) 108 0 (some 109)) 110) 108 1 (some 110)) 111) 108 2 (some 111)) 112) 108 3 (some 112))
set_option maxRecDepth 100000 in
def I_X2_init_108 (I : pI) : pI := (zI (uI (uI (uI (uI (uI (uI (zI (uI (uI (uI (uI (uI (uI (zI (zI I 109) 110) 110 0 1) 110 1 1) 110 2 1) 110 3 1) 110 4 1) 110 5 1) 111) 111 0 1) 111 1 1) 111 2 1) 111 3 1) 111 4 1) 111 5 1) 112)
set_option maxHeartbeats 8000000 in
set_option maxRecDepth 100000 in
theorem s_X2_init_108 (hQ : Q none (F_X2_init_108 F) (I_X2_init_108 I)) : CallN G (d + 1) kX2_init [vr 108] 109 F I Q := by
  refine Call_wp (lv := [some (vr 108)]) (by decide) ckX2_init [] rfl rfl ?_
  refine ⟨Nat.le_of_ble_eq_true rfl, (by omega), ?_⟩
  refine ⟨rfl, (by decide), (by decide), (by decide), (by decide), ?_⟩
  refine ⟨_, rfl, (by decide), ?_⟩
  refine ⟨rfl, (by decide), (by decide), (by decide), (by decide), ?_⟩
  refine ⟨_, rfl, (by decide), (by decide), (by decide), ?_⟩
  refine ⟨_, rfl, (by decide), (by decide), (by decide), ?_⟩
  refine ⟨_, rfl, (by decide), (by decide), (by decide), ?_⟩
  refine ⟨_, rfl, (by decide), (by decide), (by decide), ?_⟩
  refine ⟨_, rfl, (by decide), (by decide), (by decide), ?_⟩
  refine ⟨_, rfl, (by decide), (by decide), (by decide), ?_⟩
  refine ⟨_, rfl, (by decide), ?_⟩
  refine ⟨rfl, (by decide), (by decide), (by decide), (by decide), ?_⟩
  refine ⟨_, rfl, (by decide), (by decide), (by decide), ?_⟩
  refine ⟨_, rfl, (by decide), (by decide), (by decide), ?_⟩
  refine ⟨_, rfl, (by decide), (by decide), (by decide), ?_⟩
  refine ⟨_, rfl, (by decide), (by decide), (by decide), ?_⟩
  refine ⟨_, rfl, (by decide), (by decide), (by decide), ?_⟩
  refine ⟨_, rfl, (by decide), (by decide), (by decide), ?_⟩
  refine ⟨_, rfl, (by decide), ?_⟩
  refine ⟨rfl, (by decide), (by decide), (by decide), (by decide), ?_⟩
  refine ⟨_, rfl, (by decide), ?_⟩
  exact ⟨rfl, hQ⟩
set_option maxRecDepth 100000 in
def F_X0_init_113 (F : pF) : pF := (uF (zF (uF (zF (uF (zF (uF (zF (uF (zF (uF (zF F 114) 113 0 (some 114)) 115) 113 1 (some 115)) 116) 113 2 (some 116)) 117) 113 3 (some 117)) 118) 113 4 (some 118)) 119) 113 5 (some 119))
set_option maxRecDepth 100000 in
def I_X0_init_113 (I : pI) : pI := (uI (zI (zI (zI (zI (zI (zI I 114) 115) 116) 117) 118) 119) 113 6 0)
set_option maxHeartbeats 8000000 in
set_option maxRecDepth 100000 in
theorem s_X0_init_113 (hQ : Q none (F_X0_init_113 F) (I_X0_init_113 I)) : CallN G (d + 1) kX0_init [vr 113] 114 F I Q := by
  refine Call_wp (lv := [some (vr 113)]) (by decide) ckX0_init [] rfl rfl ?_
  refine ⟨Nat.le_of_ble_eq_true rfl, (by omega), ?_⟩
  refine ⟨rfl, (by decide), (by decide), (by decide), (by decide), ?_⟩
  refine ⟨_, rfl, (by decide), ?_⟩
  refine ⟨rfl, (by decide), (by decide), (by decide), (by decide), ?_⟩
  refine ⟨_, rfl, (by decide), ?_⟩
  refine ⟨rfl, (by decide), (by decide), (by decide), (by decide), ?_⟩
  refine ⟨_, rfl, (by decide), ?_⟩
  refine ⟨rfl, (by decide), (by decide), (by decide), (by decide), ?_⟩
  refine ⟨_, rfl, (by decide), ?_⟩
  refine ⟨rfl, (by decide), (by decide), (by decide), (by decide), ?_⟩
  refine ⟨_, rfl, (by decide), ?_⟩
  refine ⟨rfl, (by decide), (by decide), (by decide), (by decide), ?_⟩
  refine ⟨_, rfl, (by decide), ?_⟩
  refine ⟨_, rfl, (by decide), ?_⟩
  exact ⟨rfl, hQ⟩
set_option maxRecDepth 100000 in
def F_X8_init_102 (F : pF) : pF := (uF (F_X5_init (zF (uF (F_X5_init (zF (uF (F_X5_init (zF (uF (F_X5_init (zF (uF (F_X4_init (zF (uF (F_X4_init (zF (uF (F_X4_init (zF (uF (F_X4_init (zF (uF (F_X4_init (zF (uF (F_X4_init (zF (uF (F_X4_init (zF (uF (F_X4_init (zF (uF (F_X4_init (zF (uF (F_X4_init (zF (uF (F_X4_init (zF (uF (F_X4_init (zF (uF (F_X4_init (zF (uF (F_X4_init (zF (uF (zF (uF (F_X0_init_113 (zF (uF (F_X2_init_108 (zF (uF (zF (uF (zF (uF (zF (uF (zF (uF (zF F 103) 102 0 (some 103)) 104) 102 2 (some 104)) 105) 102 3 (some 105)) 106) 102 4 (some 106)) 107) 102 6 (some 107)) 108)) 102 8 (some 108)) 113)) 102 9 (some 113)) 120) 102 10 (some 120)) 121) 121 122) 103 0 (some 121)) 126) 126 127) 103 1 (some 126)) 131) 131 132) 103 2 (some 131)) 136) 136 137) 103 3 (some 136)) 141) 141 142) 103 4 (some 141)) 146) 146 147) 103 5 (some 146)) 151) 151 152) 103 6 (some 151)) 156) 156 157) 103 7 (some 156)) 161) 161 162) 103 8 (some 161)) 166) 166 167) 103 9 (some 166)) 171) 171 172) 103 10 (some 171)) 176) 176 177) 103 11 (some 176)) 181) 181 182) 103 12 (some 181)) 186) 186 187) 103 13 (some 186)) 191) 191 192) 104 0 (some 191)) 194) 194 195) 104 1 (some 194)) 197) 197 198) 104 2 (some 197)) 200) 200 201) 104 3 (some 200))
set_option maxRecDepth 100000 in
def I_X8_init_102 (I : pI) : pI := (I_X5_init (zI (I_X5_init (zI (I_X5_init (zI (I_X5_init (zI (I_X4_init (zI (I_X4_init (zI (I_X4_init (zI (I_X4_init (zI (I_X4_init (zI (I_X4_init (zI (I_X4_init (zI (I_X4_init (zI (I_X4_init (zI (I_X4_init (zI (I_X4_init (zI (I_X4_init (zI (I_X4_init (zI (I_X4_init (zI (uI (zI (I_X0_init_113 (zI (I_X2_init_108 (zI (uI (zI (uI (zI (uI (uI (uI (uI (uI (zI (zI (uI (zI I 103) 102 1 0) 104) 105) 105 0 99999) 105 1 999) 105 2 99999) 105 3 0) 105 4 0) 106) 102 5 0) 107) 102 7 0) 108)) 113)) 120) 102 11 0) 121) 121 122) 126) 126 127) 131) 131 132) 136) 136 137) 141) 141 142) 146) 146 147) 151) 151 152) 156) 156 157) 161) 161 162) 166) 166 167) 171) 171 172) 176) 176 177) 181) 181 182) 186) 186 187) 191) 191 192) 194) 194 195) 197) 197 198) 200) 200 201)
set_option maxHeartbeats 8000000 in
set_option maxRecDepth 100000 in
theorem s_X8_init_102 (hQ : Q none (F_X8_init_102 F) (I_X8_init_102 I)) : CallN G (d + 3) kX8_init [vr 102] 103 F I Q := by
  refine Call_wp (lv := [some (vr 102), none]) (by decide) ckX8_init [] rfl rfl ?_
  refine ⟨Nat.le_of_ble_eq_true rfl, (by omega), ?_⟩
  refine ⟨rfl, (by decide), (by decide), (by decide), (by decide), ?_⟩
  refine ⟨_, rfl, (by decide), ?_⟩
  refine ⟨_, rfl, (by decide), ?_⟩
  refine ⟨rfl, (by decide), (by decide), (by decide), (by decide), ?_⟩
  refine ⟨_, rfl, (by decide), ?_⟩
  refine ⟨rfl, (by decide), (by decide), (by decide), (by decide), ?_⟩
  refine ⟨_, rfl, (by decide), (by decide), (by decide), ?_⟩
  refine ⟨_, rfl, (by decide), (by decide), (by decide), ?_⟩
  refine ⟨_, rfl, (by decide), (by decide), (by decide), ?_⟩
  refine ⟨_, rfl, (by decide), (by decide), (by decide), ?_⟩
  refine ⟨_, rfl, (by decide), (by decide), (by decide), ?_⟩
  refine ⟨_, rfl, (by decide), ?_⟩
  refine ⟨rfl, (by decide), (by decide), (by decide), (by decide), ?_⟩
  refine ⟨_, rfl, (by decide), ?_⟩
  refine ⟨_, rfl, (by decide), ?_⟩
  refine ⟨rfl, (by decide), (by decide), (by decide), (by decide), ?_⟩
  refine ⟨_, rfl, (by decide), ?_⟩
  refine ⟨_, rfl, (by decide), (by decide), ?_⟩
  refine ⟨rfl, (by decide), (by decide), ?_⟩
  refine ⟨Nat.le_of_ble_eq_true rfl, (by decide), ?_⟩
  refine s_X2_init_108 ?_
  refine ⟨_, rfl, (by decide), ?_⟩
  refine ⟨rfl, (by decide), (by decide), ?_⟩
  refine ⟨Nat.le_of_ble_eq_true rfl, (by decide), ?_⟩
  refine s_X0_init_113 ?_
  refine ⟨_, rfl, (by decide), ?_⟩
  refine ⟨rfl, (by decide), (by decide), (by decide), (by decide), ?_⟩
  refine ⟨_, rfl, (by decide), ?_⟩
  refine ⟨_, rfl, (by decide), ?_⟩
  refine ⟨fun c => absurd c (by decide), fun _ => ?_⟩
  refine ⟨_, rfl, (by decide), ?_⟩
  refine fun w0 hw0 => ?_; obtain rfl : w0 = some 103 := hw0.symm.trans rfl
  refine ⟨rfl, (by decide), (by decide), ?_⟩
  refine ⟨Nat.le_of_ble_eq_true rfl, (by decide), ?_⟩
  refine s_X4_init (q := 121) (n := 122) rfl (by decide) (by decide) rfl rfl rfl rfl ?_
  refine ⟨_, _, rfl, (by decide), (by decide), (by decide), Or.inr ⟨_, _, rfl, (by decide), rfl, (by decide)⟩, ?_⟩
  refine ⟨fun c => absurd c (by decide), fun _ => ?_⟩
  refine ⟨_, rfl, (by decide), ?_⟩
  refine fun w0 hw0 => ?_; obtain rfl : w0 = some 103 := hw0.symm.trans rfl
  refine ⟨rfl, (by decide), (by decide), ?_⟩
  refine ⟨Nat.le_of_ble_eq_true rfl, (by decide), ?_⟩
  refine s_X4_init (q := 126) (n := 127) rfl (by decide) (by decide) rfl rfl rfl rfl ?_
  refine ⟨_, _, rfl, (by decide), (by decide), (by decide), Or.inr ⟨_, _, rfl, (by decide), rfl, (by decide)⟩, ?_⟩
  refine ⟨fun c => absurd c (by decide), fun _ => ?_⟩
  refine ⟨_, rfl, (by decide), ?_⟩
  refine fun w0 hw0 => ?_; obtain rfl : w0 = some 103 := hw0.symm.trans rfl
  refine ⟨rfl, (by decide), (by decide), ?_⟩
  refine ⟨Nat.le_of_ble_eq_true rfl, (by decide), ?_⟩
  refine s_X4_init (q := 131) (n := 132) rfl (by decide) (by decide) rfl rfl rfl rfl ?_
  refine ⟨_, _, rfl, (by decide), (by decide), (by decide), Or.inr ⟨_, _, rfl, (by decide), rfl, (by decide)⟩, ?_⟩
  refine ⟨fun c => absurd c (by decide), fun _ => ?_⟩
  refine ⟨_, rfl, (by decide), ?_⟩
  refine fun w0 hw0 => ?_; obtain rfl : w0 = some 103 := hw0.symm.trans rfl
  refine ⟨rfl, (by decide), (by decide), ?_⟩
  refine ⟨Nat.le_of_ble_eq_true rfl, (by decide), ?_⟩
  refine s_X4_init (q := 136) (n := 137) rfl (by decide) (by decide) rfl rfl rfl rfl ?_
  refine ⟨_, _, rfl, (by decide), (by decide), (by decide), Or.inr ⟨_, _, rfl, (by decide), rfl, (by decide)⟩, ?_⟩
  refine ⟨fun c => absurd c (by decide), fun _ => ?_⟩
  refine ⟨_, rfl, (by decide), ?_⟩
  refine fun w0 hw0 => ?_; obtain rfl : w0 = some 103 := hw0.symm.trans rfl
  refine ⟨rfl, (by decide), (by decide), ?_⟩
  refine ⟨Nat.le_of_ble_eq_true rfl, (by decide), ?_⟩
  refine s_X4_init (q := 141) (n := 142) rfl (by decide) (by decide) rfl rfl rfl rfl ?_
  refine ⟨_, _, rfl, (by decide), (by decide), (by decide), Or.inr ⟨_, _, rfl, (by decide), rfl, (by decide)⟩, ?_⟩
  refine ⟨fun c => absurd c (by decide), fun _ => ?_⟩
  refine ⟨_, rfl, (by decide), ?_⟩
  refine fun w0 hw0 => ?_; obtain rfl : w0 = some 103 := hw0.symm.trans rfl
  refine ⟨rfl, (by decide), (by decide), ?_⟩
  refine ⟨Nat.le_of_ble_eq_true rfl, (by decide), ?_⟩
  refine s_X4_init (q := 146) (n := 147) rfl (by decide) (by decide) rfl rfl rfl rfl ?_
  refine ⟨_, _, rfl, (by decide), (by decide), (by decide), Or.inr ⟨_, _, rfl, (by decide), rfl, (by decide)⟩, ?_⟩
  refine ⟨fun c => absurd c (by decide), fun _ => ?_⟩
  refine ⟨_, rfl, (by decide), ?_⟩
  refine fun w0 hw0 => ?_; obtain rfl : w0 = some 103 := hw0.symm.trans rfl
  refine ⟨rfl, (by decide), (by decide), ?_⟩
  refine ⟨Nat.le_of_ble_eq_true rfl, (by decide), ?_⟩
  refine s_X4_init (q := 151) (n := 152) rfl (by decide) (by decide) rfl rfl rfl rfl ?_
  refine ⟨_, _, rfl, (by decide), (by decide), (by decide), Or.inr ⟨_, _, rfl, (by decide), rfl, (by decide)⟩, ?_⟩
  refine ⟨fun c => absurd c (by decide), fun _ => ?_⟩
  refine ⟨_, rfl, (by decide), ?_⟩
  refine fun w0 hw0 => ?_; obtain rfl : w0 = some 103 := hw0.symm.trans rfl
  refine ⟨rfl, (by decide), (by decide), ?_⟩
  refine ⟨Nat.le_of_ble_eq_true rfl, (by decide), ?_⟩
  refine s_X4_init (q := 156) (n := 157) rfl (by decide) (by decide) rfl rfl rfl rfl ?_
  refine ⟨_, _, rfl, (by decide), (by decide), (by decide), Or.inr ⟨_, _, rfl, (by decide), rfl, (by decide)⟩, ?_⟩
  refine ⟨fun c => absurd c (by decide), fun _ => ?_⟩
  refine ⟨_, rfl, (by decide), ?_⟩
  refine fun w0 hw0 => ?_; obtain rfl : w0 = some 103 := hw0.symm.trans rfl
  refine ⟨rfl, (by decide), (by decide), ?_⟩
  refine ⟨Nat.le_of_ble_eq_true rfl, (by decide), ?_⟩
  refine s_X4_init (q := 161) (n := 162) rfl (by decide) (by decide) rfl rfl rfl rfl ?_
  refine ⟨_, _, rfl, (by decide), (by decide), (by decide), Or.inr ⟨_, _, rfl, (by decide), rfl, (by decide)⟩, ?_⟩
  refine ⟨fun c => absurd c (by decide), fun _ => ?_⟩
  refine ⟨_, rfl, (by decide), ?_⟩
  refine fun w0 hw0 => ?_; obtain rfl : w0 = some 103 := hw0.symm.trans rfl
  refine ⟨rfl, (by decide), (by decide), ?_⟩
  refine ⟨Nat.le_of_ble_eq_true rfl, (by decide), ?_⟩
  refine s_X4_init (q := 166) (n := 167) rfl (by decide) (by decide) rfl rfl rfl rfl ?_
  refine ⟨_, _, rfl, (by decide), (by decide), (by decide), Or.inr ⟨_, _, rfl, (by decide), rfl, (by decide)⟩, ?_⟩
  refine ⟨fun c => absurd c (by decide), fun _ => ?_⟩
  refine ⟨_, rfl, (by decide), ?_⟩
  refine fun w0 hw0 => ?_; obtain rfl : w0 = some 103 := hw0.symm.trans rfl
  refine ⟨rfl, (by decide), (by decide), ?_⟩
  refine ⟨Nat.le_of_ble_eq_true rfl, (by decide), ?_⟩
  refine s_X4_init (q := 171) (n := 172) rfl (by decide) (by decide) rfl rfl rfl rfl ?_
  refine ⟨_, _, rfl, (by decide), (by decide), (by decide), Or.inr ⟨_, _, rfl, (by decide), rfl, (by decide)⟩, ?_⟩
  refine ⟨fun c => absurd c (by decide), fun _ => ?_⟩
  refine ⟨_, rfl, (by decide), ?_⟩
  refine fun w0 hw0 => ?_; obtain rfl : w0 = some 103 := hw0.symm.trans rfl
  refine ⟨rfl, (by decide), (by decide), ?_⟩
  refine ⟨Nat.le_of_ble_eq_true rfl, (by decide), ?_⟩
  refine s_X4_init (q := 176) (n := 177) rfl (by decide) (by decide) rfl rfl rfl rfl ?_
  refine ⟨_, _, rfl, (by decide), (by decide), (by decide), Or.inr ⟨_, _, rfl, (by decide), rfl, (by decide)⟩, ?_⟩
  refine ⟨fun c => absurd c (by decide), fun _ => ?_⟩
  refine ⟨_, rfl, (by decide), ?_⟩
  refine fun w0 hw0 => ?_; obtain rfl : w0 = some 103 := hw0.symm.trans rfl
  refine ⟨rfl, (by decide), (by decide), ?_⟩
  refine ⟨Nat.le_of_ble_eq_true rfl, (by decide), ?_⟩
  refine s_X4_init (q := 181) (n := 182) rfl (by decide) (by decide) rfl rfl rfl rfl ?_
  refine ⟨_, _, rfl, (by decide), (by decide), (by decide), Or.inr ⟨_, _, rfl, (by decide), rfl, (by decide)⟩, ?_⟩
  refine ⟨fun c => absurd c (by decide), fun _ => ?_⟩
  refine ⟨_, rfl, (by decide), ?_⟩
  refine fun w0 hw0 => ?_; obtain rfl : w0 = some 103 := hw0.symm.trans rfl
  refine ⟨rfl, (by decide), (by decide), ?_⟩
  refine ⟨Nat.le_of_ble_eq_true rfl, (by decide), ?_⟩
  refine s_X4_init (q := 186) (n := 187) rfl (by decide) (by decide) rfl rfl rfl rfl ?_
  refine ⟨_, _, rfl, (by decide), (by decide), (by decide), Or.inr ⟨_, _, rfl, (by decide), rfl, (by decide)⟩, ?_⟩
  refine ⟨fun _ => ?_, fun c => absurd (by decide) c⟩
  refine ⟨fun c => absurd c (by decide), fun _ => ?_⟩
  refine ⟨_, rfl, (by decide), ?_⟩
  refine fun w0 hw0 => ?_; obtain rfl : w0 = some 104 := hw0.symm.trans rfl
  refine ⟨rfl, (by decide), (by decide), ?_⟩
  refine ⟨Nat.le_of_ble_eq_true rfl, (by decide), ?_⟩
  refine s_X5_init (q := 191) (n := 192) rfl (by decide) (by decide) rfl rfl ?_
  refine ⟨_, _, rfl, (by decide), (by decide), (by decide), Or.inr ⟨_, _, rfl, (by decide), rfl, (by decide)⟩, ?_⟩
  refine ⟨fun c => absurd c (by decide), fun _ => ?_⟩
  refine ⟨_, rfl, (by decide), ?_⟩
  refine fun w0 hw0 => ?_; obtain rfl : w0 = some 104 := hw0.symm.trans rfl
  refine ⟨rfl, (by decide), (by decide), ?_⟩
  refine ⟨Nat.le_of_ble_eq_true rfl, (by decide), ?_⟩
  refine s_X5_init (q := 194) (n := 195) rfl (by decide) (by decide) rfl rfl ?_
  refine ⟨_, _, rfl, (by decide), (by decide), (by decide), Or.inr ⟨_, _, rfl, (by decide), rfl, (by decide)⟩, ?_⟩
  refine ⟨fun c => absurd c (by decide), fun _ => ?_⟩
  refine ⟨_, rfl, (by decide), ?_⟩
  refine fun w0 hw0 => ?_; obtain rfl : w0 = some 104 := hw0.symm.trans rfl
  refine ⟨rfl, (by decide), (by decide), ?_⟩
  refine ⟨Nat.le_of_ble_eq_true rfl, (by decide), ?_⟩
  refine s_X5_init (q := 197) (n := 198) rfl (by decide) (by decide) rfl rfl ?_
  refine ⟨_, _, rfl, (by decide), (by decide), (by decide), Or.inr ⟨_, _, rfl, (by decide), rfl, (by decide)⟩, ?_⟩
  refine ⟨fun c => absurd c (by decide), fun _ => ?_⟩
  refine ⟨_, rfl, (by decide), ?_⟩
  refine fun w0 hw0 => ?_; obtain rfl : w0 = some 104 := hw0.symm.trans rfl
  refine ⟨rfl, (by decide), (by decide), ?_⟩
  refine ⟨Nat.le_of_ble_eq_true rfl, (by decide), ?_⟩
  refine s_X5_init (q := 200) (n := 201) rfl (by decide) (by decide) rfl rfl ?_
  refine ⟨_, _, rfl, (by decide), (by decide), (by decide), Or.inr ⟨_, _, rfl, (by decide), rfl, (by decide)⟩, ?_⟩
  refine ⟨fun _ => ?_, fun c => absurd (by decide) c⟩
  exact ⟨rfl, hQ⟩
set_option maxRecDepth 100000 in
def F_X10_init_205 (F : pF) : pF := (uF (zF (uF (zF F 206) 205 0 (some 206)) 207) 205 2 (some 207))
set_option maxRecDepth 100000 in
def I_X10_init_205 (I : pI) : pI := (uI (uI (uI (uI (uI (zI (uI (zI I 206) 205 1 0) 207) 205 3 0) 205 4 0) 205 5 0) 205 6 0) 205 7 0)
set_option maxHeartbeats 8000000 in
set_option maxRecDepth 100000 in
theorem s_X10_init_205 (hQ : Q none (F_X10_init_205 F) (I_X10_init_205 I)) : CallN G (d + 1) kX10_init [vr 205] 206 F I Q := by
  refine Call_wp (lv := [some (vr 205)]) (by decide) ckX10_init [] rfl rfl ?_
  refine ⟨Nat.le_of_ble_eq_true rfl, (by omega), ?_⟩
  refine ⟨rfl, (by decide), (by decide), (by decide), (by decide), ?_⟩
  refine ⟨_, rfl, (by decide), ?_⟩
  refine ⟨_, rfl, (by decide), ?_⟩
  refine ⟨rfl, (by decide), (by decide), (by decide), (by decide), ?_⟩
  refine ⟨_, rfl, (by decide), ?_⟩
  refine ⟨_, rfl, (by decide), ?_⟩
  refine ⟨_, rfl, (by decide), ?_⟩
  refine ⟨_, rfl, (by decide), ?_⟩
  refine ⟨_, rfl, (by decide), ?_⟩
  refine ⟨_, rfl, (by decide), (by decide), ?_⟩
  exact ⟨rfl, hQ⟩
set_option maxRecDepth 100000 in
def F_X1_init_208 (F : pF) : pF := (uF (F_X4_init (zF (uF (F_X6_init (zF (uF (zF F 209) 208 0 (some 209)) 210) 210 211) 208 1 (some 210)) 213) 213 214) 208 2 (some 213))
set_option maxRecDepth 100000 in
def I_X1_init_208 (I : pI) : pI := (uI (uI (uI (uI (uI (uI (uI (uI (uI (uI (uI (uI (I_X4_init (zI (I_X6_init (zI (zI I 209) 210) 210 211) 213) 213 214) 208 3 0) 208 4 0) 208 5 0) 208 6 0) 208 7 0) 208 8 0) 208 9 0) 208 10 0) 208 11 0) 208 12 0) 208 13 0) 208 14 0)
set_option maxHeartbeats 8000000 in
set_option maxRecDepth 100000 in
theorem s_X1_init_208 (hQ : Q none (F_X1_init_208 F) (I_X1_init_208 I)) : CallN G (d + 3) kX1_init [vr 208] 209 F I Q := by
  refine Call_wp (lv := [some (vr 208)]) (by decide) ckX1_init [] rfl rfl ?_
  refine ⟨Nat.le_of_ble_eq_true rfl, (by omega), ?_⟩
  refine ⟨rfl, (by decide), (by decide), (by decide), (by decide), ?_⟩
  refine ⟨_, rfl, (by decide), ?_⟩
  refine ⟨rfl, (by decide), (by decide), ?_⟩
  refine ⟨Nat.le_of_ble_eq_true rfl, (by decide), ?_⟩
  refine s_X6_init (q := 210) (n := 211) rfl (by decide) (by decide) rfl rfl ?_
  refine ⟨_, rfl, (by decide), ?_⟩
  refine ⟨rfl, (by decide), (by decide), ?_⟩
  refine ⟨Nat.le_of_ble_eq_true rfl, (by decide), ?_⟩
  refine s_X4_init (q := 213) (n := 214) rfl (by decide) (by decide) rfl rfl rfl rfl ?_
  refine ⟨_, rfl, (by decide), ?_⟩
  refine ⟨_, rfl, (by decide), ?_⟩
  refine ⟨_, rfl, (by decide), ?_⟩
  refine ⟨_, rfl, (by decide), ?_⟩
  refine ⟨_, rfl, (by decide), ?_⟩
  refine ⟨_, rfl, (by decide), ?_⟩
  refine ⟨_, rfl, (by decide), ?_⟩
  refine ⟨_, rfl, (by decide), ?_⟩
  refine ⟨_, rfl, (by decide), ?_⟩
  refine ⟨_, rfl, (by decide), ?_⟩
  refine ⟨_, rfl, (by decide), ?_⟩
  refine ⟨_, rfl, (by decide), (by decide), ?_⟩
  refine ⟨_, rfl, (by decide), (by decide), ?_⟩
  exact ⟨rfl, hQ⟩
set_option maxRecDepth 100000 in
def F_X9_init_218 (F : pF) : pF := (uF (zF F 219) 218 0 (some 219))
set_option maxRecDepth 100000 in
def I_X9_init_218 (I : pI) : pI := (uI (uI (uI (zI I 219) 218 1 0) 218 2 0) 218 3 0)
set_option maxHeartbeats 8000000 in
set_option maxRecDepth 100000 in
theorem s_X9_init_218 (hQ : Q none (F_X9_init_218 F) (I_X9_init_218 I)) : CallN G (d + 1) kX9_init [vr 218] 219 F I Q := by
  refine Call_wp (lv := [some (vr 218)]) (by decide) ckX9_init [] rfl rfl ?_
  refine ⟨Nat.le_of_ble_eq_true rfl, (by omega), ?_⟩
  refine ⟨rfl, (by decide), (by decide), (by decide), (by decide), ?_⟩
  refine ⟨_, rfl, (by decide), ?_⟩
  refine ⟨_, rfl, (by decide), ?_⟩
  refine ⟨_, rfl, (by decide), ?_⟩
  refine ⟨_, rfl, (by decide), ?_⟩
  exact ⟨rfl, hQ⟩
set_option maxRecDepth 100000 in
def F_X3_init_223 (F : pF) : pF := (uF (zF (uF (zF F 224) 223 0 (some 224)) 225) 223 1 (some 225))
set_option maxRecDepth 100000 in
def I_X3_init_223 (I : pI) : pI := (uI (zI (zI I 224) 225) 223 2 0)
set_option maxHeartbeats 8000000 in
set_option maxRecDepth 100000 in
theorem s_X3_init_223 (hQ : Q none (F_X3_init_223 F) (I_X3_init_223 I)) : CallN G (d + 1) kX3_init [vr 223] 224 F I Q := by
  refine Call_wp (lv := [some (vr 223)]) (by decide) ckX3_init [] rfl rfl ?_
  refine ⟨Nat.le_of_ble_eq_true rfl, (by omega), ?_⟩
  refine ⟨rfl, (by decide), (by decide), (by decide), (by decide), ?_⟩
  refine ⟨_, rfl, (by decide), ?_⟩
  refine ⟨rfl, (by decide), (by decide), (by decide), (by decide), ?_⟩
  refine ⟨_, rfl, (by decide), ?_⟩
  refine ⟨_, rfl, (by decide), ?_⟩
  exact ⟨rfl, hQ⟩
set_option maxRecDepth 100000 in
def F_X11_init_0 (F : pF) : pF := (uF (F_X7_init (zF (uF (F_X7_init (zF (uF (F_X7_init (zF (uF (F_X7_init (zF (uF (zF (uF (F_X3_init_223 (zF (uF (F_X5_init (zF (uF (F_X9_init_218 (zF (uF (F_X1_init_208 (zF (uF (F_X10_init_205 (zF (uF (zF (uF (zF (uF (F_X8_init_102 (zF (uF (F_X8_init_1 (zF F 1)) 0 0 (some 1)) 102)) 0 1 (some 102)) 203) 0 3 (some 203)) 204) 0 4 (some 204)) 205)) 0 5 (some 205)) 208)) 0 6 (some 208)) 218)) 0 7 (some 218)) 220) 220 221) 0 8 (some 220)) 223)) 0 9 (some 223)) 226) 0 10 (some 226)) 227) 227 228) 204 0 (some 227)) 229) 229 230) 204 1 (some 229)) 231) 231 232) 204 2 (some 231)) 233) 233 234) 204 3 (some 233))
set_option maxRecDepth 100000 in
def I_X11_init_0 (I : pI) : pI := (I_X7_init (zI (I_X7_init (zI (I_X7_init (zI (I_X7_init (zI (zI (I_X3_init_223 (zI (I_X5_init (zI (I_X9_init_218 (zI (I_X1_init_208 (zI (I_X10_init_205 (zI (zI (zI (uI (I_X8_init_102 (zI (I_X8_init_1 (zI I 1)) 102)) 0 2 0) 203) 204) 205)) 208)) 218)) 220) 220 221) 223)) 226) 227) 227 228) 229) 229 230) 231) 231 232) 233) 233 234)
set_option maxHeartbeats 8000000 in
set_option maxRecDepth 100000 in
theorem s_X11_init_0 (hQ : Q none (F_X11_init_0 F) (I_X11_init_0 I)) : CallN G (d + 4) kX11_init [vr 0] 1 F I Q := by
  refine Call_wp (lv := [some (vr 0), none]) (by decide) ckX11_init [] rfl rfl ?_
  refine ⟨Nat.le_of_ble_eq_true rfl, (by omega), ?_⟩
  refine ⟨rfl, (by decide), (by decide), ?_⟩
  refine ⟨Nat.le_of_ble_eq_true rfl, (by decide), ?_⟩
  refine s_X8_init_1 ?_
  refine ⟨_, rfl, (by decide), ?_⟩
  refine ⟨rfl, (by decide), (by decide), ?_⟩
  refine ⟨Nat.le_of_ble_eq_true rfl, (by decide), ?_⟩
  refine s_X8_init_102 ?_
  refine ⟨_, rfl, (by decide), ?_⟩
  refine ⟨_, rfl, (by decide), ?_⟩
  refine ⟨rfl, (by decide), (by decide), (by decide), (by decide), ?_⟩
  refine ⟨_, rfl, (by decide), ?_⟩
  refine ⟨rfl, (by decide), (by decide), (by decide), (by decide), ?_⟩
  refine ⟨_, rfl, (by decide), ?_⟩
  refine ⟨rfl, (by decide), (by decide), ?_⟩
  refine ⟨Nat.le_of_ble_eq_true rfl, (by decide), ?_⟩
  refine s_X10_init_205 ?_
  refine ⟨_, rfl, (by decide), ?_⟩
  refine ⟨rfl, (by decide), (by decide), ?_⟩
  refine ⟨Nat.le_of_ble_eq_true rfl, (by decide), ?_⟩
  refine s_X1_init_208 ?_
  refine ⟨_, rfl, (by decide), ?_⟩
  refine ⟨rfl, (by decide), (by decide), ?_⟩
  refine ⟨Nat.le_of_ble_eq_true rfl, (by decide), ?_⟩
  refine s_X9_init_218 ?_
  refine ⟨_, rfl, (by decide), ?_⟩
  refine ⟨rfl, (by decide), (by decide), ?_⟩
  refine ⟨Nat.le_of_ble_eq_true rfl, (by decide), ?_⟩
  refine s_X5_init (q := 220) (n := 221) rfl (by decide) (by decide) rfl rfl ?_
  refine ⟨_, rfl, (by decide), ?_⟩
  refine ⟨rfl, (by decide), (by decide), ?_⟩
  refine ⟨Nat.le_of_ble_eq_true rfl, (by decide), ?_⟩
  refine s_X3_init_223 ?_
  refine ⟨_, rfl, (by decide), ?_⟩
  refine ⟨rfl, (by decide), (by decide), (by decide), (by decide), ?_⟩
  refine ⟨_, rfl, (by decide), ?_⟩
  refine ⟨fun c => absurd c (by decide), fun _ => ?_⟩
  refine ⟨_, rfl, (by decide), ?_⟩
  refine fun w0 hw0 => ?_; obtain rfl : w0 = some 204 := hw0.symm.trans rfl
  refine ⟨rfl, (by decide), (by decide), ?_⟩
  refine ⟨Nat.le_of_ble_eq_true rfl, (by decide), ?_⟩
  refine s_X7_init (q := 227) (n := 228) rfl (by decide) (by decide) rfl ?_
  refine ⟨_, _, rfl, (by decide), (by decide), (by decide), Or.inr ⟨_, _, rfl, (by decide), rfl, (by decide)⟩, ?_⟩
  refine ⟨fun c => absurd c (by decide), fun _ => ?_⟩
  refine ⟨_, rfl, (by decide), ?_⟩
  refine fun w0 hw0 => ?_; obtain rfl : w0 = some 204 := hw0.symm.trans rfl
  refine ⟨rfl, (by decide), (by decide), ?_⟩
  refine ⟨Nat.le_of_ble_eq_true rfl, (by decide), ?_⟩
  refine s_X7_init (q := 229) (n := 230) rfl (by decide) (by decide) rfl ?_
  refine ⟨_, _, rfl, (by decide), (by decide), (by decide), Or.inr ⟨_, _, rfl, (by decide), rfl, (by decide)⟩, ?_⟩
  refine ⟨fun c => absurd c (by decide), fun _ => ?_⟩
  refine ⟨_, rfl, (by decide), ?_⟩
  refine fun w0 hw0 => ?_; obtain rfl : w0 = some 204 := hw0.symm.trans rfl
  refine ⟨rfl, (by decide), (by decide), ?_⟩
  refine ⟨Nat.le_of_ble_eq_true rfl, (by decide), ?_⟩
  refine s_X7_init (q := 231) (n := 232) rfl (by decide) (by decide) rfl ?_
  refine ⟨_, _, rfl, (by decide), (by decide), (by decide), Or.inr ⟨_, _, rfl, (by decide), rfl, (by decide)⟩, ?_⟩
  refine ⟨fun c => absurd c (by decide), fun _ => ?_⟩
  refine ⟨_, rfl, (by decide), ?_⟩
  refine fun w0 hw0 => ?_; obtain rfl : w0 = some 204 := hw0.symm.trans rfl
  refine ⟨rfl, (by decide), (by decide), ?_⟩
  refine ⟨Nat.le_of_ble_eq_true rfl, (by decide), ?_⟩
  refine s_X7_init (q := 233) (n := 234) rfl (by decide) (by decide) rfl ?_
  refine ⟨_, _, rfl, (by decide), (by decide), (by decide), Or.inr ⟨_, _, rfl, (by decide), rfl, (by decide)⟩, ?_⟩
  refine ⟨fun _ => ?_, fun c => absurd (by decide) c⟩
  exact ⟨rfl, hQ⟩
set_option maxRecDepth 100000 in
def F_X12_init_235 (F : pF) : pF := (uF (zF (uF (zF (uF (zF (uF (zF (uF (zF (uF (zF (uF (zF (uF (zF (uF (zF (uF (zF (uF (zF (uF (zF (uF (zF (uF (uF (uF (uF (uF (uF (uF (zF (uF (zF (uF (zF (uF (zF (uF (zF F 236) 235 0 (some 236)) 237) 235 1 (some 237)) 238) 235 3 (some 238)) 239) 235 4 (some 239)) 240) 240 0 (some 4115)) 240 1 (some 4116)) 240 2 (some 4117)) 240 3 (some 4118)) 240 4 (some 4119)) 240 5 (some 4120)) 235 5 (some 240)) 241) 235 10 (some 241)) 242) 235 19 (some 242)) 243) 235 20 (some 243)) 244) 235 21 (some 244)) 245) 235 25 (some 245)) 246) 235 26 (some 246)) 247) 235 28 (some 247)) 248) 235 29 (some 248)) 249) 235 30 (some 249)) 250) 235 34 (some 250)) 251) 235 35 (some 251)) 252) 235 36 (some 252)) 253) 235 37 (some 253))
set_option maxRecDepth 100000 in
def I_X12_init_235 (I : pI) : pI := (uI (uI (uI (uI (uI (uI (uI (uI (uI (uI (uI (uI (uI (uI (uI (zI (zI (zI (zI (zI (zI (zI (zI (zI (zI (zI (zI (zI (zI (uI (uI (uI (uI (uI (zI (zI (zI (zI I 236) 237) 238) 239) 239 0 99999) 239 1 999) 239 2 99999) 239 3 24) 239 4 5) 240) 241) 242) 243) 244) 245) 246) 247) 248) 249) 250) 251) 252) 253) 236 4 99999) 236 5 999) 236 6 99999) 236 17 1) 236 18 1) 236 21 1) 236 22 1) 236 25 1) 236 26 1) 236 29 1) 236 30 1) 236 33 1) 236 34 1) 236 37 1) 236 38 1)
set_option maxHeartbeats 8000000 in
set_option maxRecDepth 100000 in
theorem s_X12_init_235 (hQ : Q none (F_X12_init_235 F) (I_X12_init_235 I)) : CallN G (d + 1) kX12_init [vr 235] 236 F I Q := by
  refine Call_wp (lv := [some (vr 235), none]) (by decide) ckX12_init [] rfl rfl ?_
  refine ⟨Nat.le_of_ble_eq_true rfl, (by omega), ?_⟩
  refine ⟨rfl, (by decide), (by decide), (by decide), (by decide), ?_⟩
  refine ⟨_, rfl, (by decide), ?_⟩
  refine ⟨rfl, (by decide), (by decide), (by decide), (by decide), ?_⟩
  refine ⟨_, rfl, (by decide), ?_⟩
  refine ⟨rfl, (by decide), (by decide), (by decide), (by decide), ?_⟩
  refine ⟨_, rfl, (by decide), ?_⟩
  refine ⟨rfl, (by decide), (by decide), (by decide), (by decide), ?_⟩
  refine ⟨_, rfl, (by decide), (by decide), (by decide), ?_⟩
  refine ⟨_, rfl, (by decide), (by decide), (by decide), ?_⟩
  refine ⟨_, rfl, (by decide), (by decide), (by decide), ?_⟩
  refine ⟨_, rfl, (by decide), (by decide), (by decide), ?_⟩
  refine ⟨_, rfl, (by decide), (by decide), (by decide), ?_⟩
  refine ⟨_, rfl, (by decide), ?_⟩
  refine ⟨rfl, (by decide), (by decide), (by decide), (by decide), ?_⟩
  refine ⟨_, _, rfl, (by decide), (by decide), (by decide), Or.inl ⟨9, rfl, (by decide), rfl⟩, ?_⟩
  refine ⟨_, _, rfl, (by decide), (by decide), (by decide), Or.inl ⟨10, rfl, (by decide), rfl⟩, ?_⟩
  refine ⟨_, _, rfl, (by decide), (by decide), (by decide), Or.inl ⟨11, rfl, (by decide), rfl⟩, ?_⟩
  refine ⟨_, _, rfl, (by decide), (by decide), (by decide), Or.inl ⟨12, rfl, (by decide), rfl⟩, ?_⟩
  refine ⟨_, _, rfl, (by decide), (by decide), (by decide), Or.inl ⟨13, rfl, (by decide), rfl⟩, ?_⟩
  refine ⟨_, _, rfl, (by decide), (by decide), (by decide), Or.inl ⟨14, rfl, (by decide), rfl⟩, ?_⟩
  refine ⟨_, rfl, (by decide), ?_⟩
  refine ⟨rfl, (by decide), (by decide), (by decide), (by decide), ?_⟩
  refine ⟨_, rfl, (by decide), ?_⟩
  refine ⟨rfl, (by decide), (by decide), (by decide), (by decide), ?_⟩
  refine ⟨_, rfl, (by decide), ?_⟩
  refine ⟨rfl, (by decide), (by decide), (by decide), (by decide), ?_⟩
  refine ⟨_, rfl, (by decide), ?_⟩
  refine ⟨rfl, (by decide), (by decide), (by decide), (by decide), ?_⟩
  refine ⟨_, rfl, (by decide), ?_⟩
  refine ⟨rfl, (by decide), (by decide), (by decide), (by decide), ?_⟩
  refine ⟨_, rfl, (by decide), ?_⟩
  refine ⟨rfl, (by decide), (by decide), (by decide), (by decide), ?_⟩
  refine ⟨_, rfl, (by decide), ?_⟩
  refine ⟨rfl, (by decide), (by decide), (by decide), (by decide), ?_⟩
  refine ⟨_, rfl, (by decide), ?_⟩
  refine ⟨rfl, (by decide), (by decide), (by decide), (by decide), ?_⟩
  refine ⟨_, rfl, (by decide), ?_⟩
  refine ⟨rfl, (by decide), (by decide), (by decide), (by decide), ?_⟩
  refine ⟨_, rfl, (by decide), ?_⟩
  refine ⟨rfl, (by decide), (by decide), (by decide), (by decide), ?_⟩
  refine ⟨_, rfl, (by decide), ?_⟩
  refine ⟨rfl, (by decide), (by decide), (by decide), (by decide), ?_⟩
  refine ⟨_, rfl, (by decide), ?_⟩
  refine ⟨rfl, (by decide), (by decide), (by decide), (by decide), ?_⟩
  refine ⟨_, rfl, (by decide), ?_⟩
  refine ⟨rfl, (by decide), (by decide), (by decide), (by decide), ?_⟩
  refine ⟨_, rfl, (by decide), ?_⟩
  refine ⟨_, rfl, (by decide), ?_⟩
  refine fun w0 hw0 => ?_; obtain rfl : w0 = some 236 := hw0.symm.trans rfl
  refine ⟨_, rfl, (by decide), (by decide), (by decide), ?_⟩
  refine ⟨_, rfl, (by decide), ?_⟩
  refine fun w0 hw0 => ?_; obtain rfl : w0 = some 236 := hw0.symm.trans rfl
  refine ⟨_, rfl, (by decide), (by decide), (by decide), ?_⟩
  refine ⟨_, rfl, (by decide), ?_⟩
  refine fun w0 hw0 => ?_; obtain rfl : w0 = some 236 := hw0.symm.trans rfl
  refine ⟨_, rfl, (by decide), (by decide), (by decide), ?_⟩
  refine ⟨fun c => absurd c (by decide), fun _ => ?_⟩
  refine ⟨_, rfl, (by decide), ?_⟩
  refine fun w0 hw0 => ?_; obtain rfl : w0 = some 236 := hw0.symm.trans rfl
  refine ⟨_, rfl, (by decide), (by decide), (by decide), ?_⟩
  refine ⟨_, rfl, (by decide), ?_⟩
  refine fun w0 hw0 => ?_; obtain rfl : w0 = some 236 := hw0.symm.trans rfl
  refine ⟨_, rfl, (by decide), (by decide), (by decide), ?_⟩
  refine ⟨fun c => absurd c (by decide), fun _ => ?_⟩
  refine ⟨_, rfl, (by decide), ?_⟩
  refine fun w0 hw0 => ?_; obtain rfl : w0 = some 236 := hw0.symm.trans rfl
  refine ⟨_, rfl, (by decide), (by decide), (by decide), ?_⟩
  refine ⟨_, rfl, (by decide), ?_⟩
  refine fun w0 hw0 => ?_; obtain rfl : w0 = some 236 := hw0.symm.trans rfl
  refine ⟨_, rfl, (by decide), (by decide), (by decide), ?_⟩
  refine ⟨fun c => absurd c (by decide), fun _ => ?_⟩
  refine ⟨_, rfl, (by decide), ?_⟩
  refine fun w0 hw0 => ?_; obtain rfl : w0 = some 236 := hw0.symm.trans rfl
  refine ⟨_, rfl, (by decide), (by decide), (by decide), ?_⟩
  refine ⟨_, rfl, (by decide), ?_⟩
  refine fun w0 hw0 => ?_; obtain rfl : w0 = some 236 := hw0.symm.trans rfl
  refine ⟨_, rfl, (by decide), (by decide), (by decide), ?_⟩
  refine ⟨fun c => absurd c (by decide), fun _ => ?_⟩
  refine ⟨_, rfl, (by decide), ?_⟩
  refine fun w0 hw0 => ?_; obtain rfl : w0 = some 236 := hw0.symm.trans rfl
  refine ⟨_, rfl, (by decide), (by decide), (by decide), ?_⟩
  refine ⟨_, rfl, (by decide), ?_⟩
  refine fun w0 hw0 => ?_; obtain rfl : w0 = some 236 := hw0.symm.trans rfl
  refine ⟨_, rfl, (by decide), (by decide), (by decide), ?_⟩
  refine ⟨fun c => absurd c (by decide), fun _ => ?_⟩
  refine ⟨_, rfl, (by decide), ?_⟩
  refine fun w0 hw0 => ?_; obtain rfl : w0 = some 236 := hw0.symm.trans rfl
  refine ⟨_, rfl, (by decide), (by decide), (by decide), ?_⟩
  refine ⟨_, rfl, (by decide), ?_⟩
  refine fun w0 hw0 => ?_; obtain rfl : w0 = some 236 := hw0.symm.trans rfl
  refine ⟨_, rfl, (by decide), (by decide), (by decide), ?_⟩
  refine ⟨fun c => absurd c (by decide), fun _ => ?_⟩
  refine ⟨_, rfl, (by decide), ?_⟩
  refine fun w0 hw0 => ?_; obtain rfl : w0 = some 236 := hw0.symm.trans rfl
  refine ⟨_, rfl, (by decide), (by decide), (by decide), ?_⟩
  refine ⟨_, rfl, (by decide), ?_⟩
  refine fun w0 hw0 => ?_; obtain rfl : w0 = some 236 := hw0.symm.trans rfl
  refine ⟨_, rfl, (by decide), (by decide), (by decide), ?_⟩
  refine ⟨fun _ => ?_, fun c => absurd (by decide) c⟩
  exact ⟨rfl, hQ⟩
end C
