/-! image on the fresh object. Own work (scripts laid by wip/pm/gen20.py). -/
section IM
variable {G : pG} {d : Nat} {F : pF} {I : pI} {Q : Option pV → pF → pI → Prop}
theorem s_X4_copyFrom0 {q r : Nat} (hq : PO F q) (hr : PO F r) (h1 : 102 ≤ q ∧ q + 4 < 203) (hQ : ∀ I', FR I I' → Q none F I') : CallN G (d + 5) kX4_copyFrom [vr q, vr r] NP F I Q := by
  refine Call_wp (lv := [some (vr q), some (vr r)]) (by decide) ckX4_copyFrom [] rfl rfl ?_
  refine ⟨_, hr.1, (by show _ < 254; first | (have := hq.2.2.1; have e : NP = 254 := rfl; omega) | (have := hr.2.2.1; have e : NP = 254 := rfl; omega)), ?_⟩
  refine ⟨_, hq.1, (by show _ < 254; first | (have := hq.2.2.1; have e : NP = 254 := rfl; omega) | (have := hr.2.2.1; have e : NP = 254 := rfl; omega)), ?_⟩
  refine ⟨_, hr.1, (by show _ < 254; first | (have := hq.2.2.1; have e : NP = 254 := rfl; omega) | (have := hr.2.2.1; have e : NP = 254 := rfl; omega)), ?_⟩
  refine ⟨_, hq.1, (by show _ < 254; first | (have := hq.2.2.1; have e : NP = 254 := rfl; omega) | (have := hr.2.2.1; have e : NP = 254 := rfl; omega)), ?_⟩
  refine ⟨_, hr.1, (by show _ < 254; first | (have := hq.2.2.1; have e : NP = 254 := rfl; omega) | (have := hr.2.2.1; have e : NP = 254 := rfl; omega)), ?_⟩
  refine ⟨_, hq.1, (by show _ < 254; first | (have := hq.2.2.1; have e : NP = 254 := rfl; omega) | (have := hr.2.2.1; have e : NP = 254 := rfl; omega)), ?_⟩
  refine ⟨_, hr.1, (by show _ < 254; first | (have := hq.2.2.1; have e : NP = 254 := rfl; omega) | (have := hr.2.2.1; have e : NP = 254 := rfl; omega)), ?_⟩
  refine fun w0 hw0 => ?_; obtain rfl : w0 = some (r + 1) := hw0.symm.trans hr.2.2.2.1
  refine ⟨_, hq.1, (by show _ < 254; first | (have := hq.2.2.1; have e : NP = 254 := rfl; omega) | (have := hr.2.2.1; have e : NP = 254 := rfl; omega)), ?_⟩
  refine fun w0 hw0 => ?_; obtain rfl : w0 = some (q + 1) := hw0.symm.trans hq.2.2.2.1
  refine ⟨_, _, _, (by decide), hr.2.1, hq.2.1, (by show _ < 254; first | (have := hq.2.2.1; have e : NP = 254 := rfl; omega) | (have := hr.2.2.1; have e : NP = 254 := rfl; omega)), (by show _ < 254; first | (have := hq.2.2.1; have e : NP = 254 := rfl; omega) | (have := hr.2.2.1; have e : NP = 254 := rfl; omega)), (by decide), (by decide), (by decide), (by decide), (by decide), (by decide), (by omega), ?_⟩
  refine ⟨_, hr.1, (by show _ < 254; first | (have := hq.2.2.1; have e : NP = 254 := rfl; omega) | (have := hr.2.2.1; have e : NP = 254 := rfl; omega)), ?_⟩
  refine ⟨_, hq.1, (by show _ < 254; first | (have := hq.2.2.1; have e : NP = 254 := rfl; omega) | (have := hr.2.2.1; have e : NP = 254 := rfl; omega)), ?_⟩
  refine ⟨_, hq.1, (by show _ < 254; first | (have := hq.2.2.1; have e : NP = 254 := rfl; omega) | (have := hr.2.2.1; have e : NP = 254 := rfl; omega)), ?_⟩
  refine fun w0 hw0 => ?_; obtain rfl : w0 = some (q + 2) := hw0.symm.trans hq.2.2.2.2.1
  refine ⟨_, hr.1, (by show _ < 254; first | (have := hq.2.2.1; have e : NP = 254 := rfl; omega) | (have := hr.2.2.1; have e : NP = 254 := rfl; omega)), ?_⟩
  refine fun w0 hw0 => ?_; obtain rfl : w0 = some (r + 2) := hw0.symm.trans hr.2.2.2.2.1
  refine ⟨⟨_, hq.2.2.2.2.2.1, (by show _ < 254; first | (have := hq.2.2.1; have e : NP = 254 := rfl; omega) | (have := hr.2.2.1; have e : NP = 254 := rfl; omega))⟩, ?_⟩
  refine Call_wp (lv := [some (vr (q + 2)), some (vr (r + 2))]) (by decide) ckX6_copyFrom [] rfl rfl ?_
  refine ⟨_, hr.2.2.2.2.2.1, (by show _ < 254; first | (have := hq.2.2.1; have e : NP = 254 := rfl; omega) | (have := hr.2.2.1; have e : NP = 254 := rfl; omega)), ?_⟩
  refine fun w0 hw0 => ?_; obtain rfl : w0 = some (r + 2 + 1) := hw0.symm.trans hr.2.2.2.2.2.2.2.2.2.1
  refine ⟨_, hq.2.2.2.2.2.1, (by show _ < 254; first | (have := hq.2.2.1; have e : NP = 254 := rfl; omega) | (have := hr.2.2.1; have e : NP = 254 := rfl; omega)), ?_⟩
  refine fun w0 hw0 => ?_; obtain rfl : w0 = some (q + 2 + 1) := hw0.symm.trans hq.2.2.2.2.2.2.2.2.2.1
  refine ⟨_, _, _, (by decide), hr.2.2.2.2.2.2.1, hq.2.2.2.2.2.2.1, (by show _ < 254; first | (have := hq.2.2.1; have e : NP = 254 := rfl; omega) | (have := hr.2.2.1; have e : NP = 254 := rfl; omega)), (by show _ < 254; first | (have := hq.2.2.1; have e : NP = 254 := rfl; omega) | (have := hr.2.2.1; have e : NP = 254 := rfl; omega)), (by decide), (by decide), (by decide), (by decide), (by decide), (by decide), (by omega), ?_⟩
  refine ⟨_, hr.2.2.2.2.2.1, (by show _ < 254; first | (have := hq.2.2.1; have e : NP = 254 := rfl; omega) | (have := hr.2.2.1; have e : NP = 254 := rfl; omega)), ?_⟩
  refine fun w0 hw0 => ?_; obtain rfl : w0 = some (r + 2 + 2) := hw0.symm.trans hr.2.2.2.2.2.2.2.2.2.2
  refine ⟨_, hq.2.2.2.2.2.1, (by show _ < 254; first | (have := hq.2.2.1; have e : NP = 254 := rfl; omega) | (have := hr.2.2.1; have e : NP = 254 := rfl; omega)), ?_⟩
  refine fun w0 hw0 => ?_; obtain rfl : w0 = some (q + 2 + 2) := hw0.symm.trans hq.2.2.2.2.2.2.2.2.2.2
  refine ⟨_, _, _, (by decide), hr.2.2.2.2.2.2.2.1, hq.2.2.2.2.2.2.2.1, (by show _ < 254; first | (have := hq.2.2.1; have e : NP = 254 := rfl; omega) | (have := hr.2.2.1; have e : NP = 254 := rfl; omega)), (by show _ < 254; first | (have := hq.2.2.1; have e : NP = 254 := rfl; omega) | (have := hr.2.2.1; have e : NP = 254 := rfl; omega)), (by decide), (by decide), (by decide), (by decide), (by decide), (by decide), (by omega), ?_⟩
  refine ⟨_, hr.2.2.2.2.2.1, (by show _ < 254; first | (have := hq.2.2.1; have e : NP = 254 := rfl; omega) | (have := hr.2.2.1; have e : NP = 254 := rfl; omega)), ?_⟩
  refine ⟨_, hq.2.2.2.2.2.1, (by show _ < 254; first | (have := hq.2.2.1; have e : NP = 254 := rfl; omega) | (have := hr.2.2.1; have e : NP = 254 := rfl; omega)), ?_⟩
  refine ⟨rfl, ?_⟩
  exact ⟨rfl, hQ _ (FR.u (FR.c (FR.c (FR.u (FR.c (FR.u (FR.u (FR.u FR.r (by omega)) (by omega)) (by omega)) (by omega)) (by omega)) (by omega)) (by omega)) (by omega))⟩
set_option maxRecDepth 100000 in
theorem s_X8_copyFrom0 (hF : FS F) (hX : FX I) (hQ : ∀ I', FR I I' → Q none F I') : CallN G (d + 8) kX8_copyFrom [vr 102, vr 1] NP F I Q := by
  refine Call_wp (lv := [some (vr 102), some (vr 1), none]) (by decide) ckX8_copyFrom [] rfl rfl ?_
  refine ⟨_, rfl, (by decide), ?_⟩
  have r1 : (I 1 1) = 0 := (hX.i rfl)
  refine ⟨_, rfl, (by decide), ?_⟩
  refine ⟨fun c => absurd c (show (¬ ((14 : Int) ≤ 0)) from by decide), fun _ => ?_⟩
  refine ⟨_, rfl, (by decide), ?_⟩
  refine fun w0 hw0 => ?_; obtain rfl : w0 = some 103 := hw0.symm.trans (FS.g hF rfl)
  refine ⟨_, _, (by decide), rfl, (by decide), (by decide), (by decide), ?_⟩
  refine fun w0 hw0 => ?_; obtain rfl : w0 = some 121 := hw0.symm.trans (FS.g hF rfl)
  refine ⟨_, rfl, (by decide), ?_⟩
  refine fun w0 hw0 => ?_; obtain rfl : w0 = some 2 := hw0.symm.trans (FS.g hF rfl)
  refine ⟨_, _, (by decide), rfl, (by decide), (by decide), (by decide), ?_⟩
  refine fun w0 hw0 => ?_; obtain rfl : w0 = some 20 := hw0.symm.trans (FS.g hF rfl)
  refine ⟨⟨_, rfl, (by decide)⟩, ?_⟩
  refine s_X4_copyFrom0 (q := 121) (r := 20) ⟨rfl, rfl, by decide, FS.g hF rfl, FS.g hF rfl, rfl, rfl, rfl, by decide, FS.g hF rfl, FS.g hF rfl⟩ ⟨rfl, rfl, by decide, FS.g hF rfl, FS.g hF rfl, rfl, rfl, rfl, by decide, FS.g hF rfl, FS.g hF rfl⟩ (by decide) (fun I2 f3 => ?_)
  replace f3 := FR.t (FR.u FR.r (by decide)) f3
  refine ⟨fun c => absurd c (show (¬ ((14 : Int) ≤ 1)) from by decide), fun _ => ?_⟩
  refine ⟨_, rfl, (by decide), ?_⟩
  refine fun w0 hw0 => ?_; obtain rfl : w0 = some 103 := hw0.symm.trans (FS.g hF rfl)
  refine ⟨_, _, (by decide), rfl, (by decide), (by decide), (by decide), ?_⟩
  refine fun w0 hw0 => ?_; obtain rfl : w0 = some 126 := hw0.symm.trans (FS.g hF rfl)
  refine ⟨_, rfl, (by decide), ?_⟩
  refine fun w0 hw0 => ?_; obtain rfl : w0 = some 2 := hw0.symm.trans (FS.g hF rfl)
  refine ⟨_, _, (by decide), rfl, (by decide), (by decide), (by decide), ?_⟩
  refine fun w0 hw0 => ?_; obtain rfl : w0 = some 25 := hw0.symm.trans (FS.g hF rfl)
  refine ⟨⟨_, rfl, (by decide)⟩, ?_⟩
  refine s_X4_copyFrom0 (q := 126) (r := 25) ⟨rfl, rfl, by decide, FS.g hF rfl, FS.g hF rfl, rfl, rfl, rfl, by decide, FS.g hF rfl, FS.g hF rfl⟩ ⟨rfl, rfl, by decide, FS.g hF rfl, FS.g hF rfl, rfl, rfl, rfl, by decide, FS.g hF rfl, FS.g hF rfl⟩ (by decide) (fun I4 f5 => ?_)
  replace f5 := FR.t f3 f5
  refine ⟨fun c => absurd c (show (¬ ((14 : Int) ≤ 2)) from by decide), fun _ => ?_⟩
  refine ⟨_, rfl, (by decide), ?_⟩
  refine fun w0 hw0 => ?_; obtain rfl : w0 = some 103 := hw0.symm.trans (FS.g hF rfl)
  refine ⟨_, _, (by decide), rfl, (by decide), (by decide), (by decide), ?_⟩
  refine fun w0 hw0 => ?_; obtain rfl : w0 = some 131 := hw0.symm.trans (FS.g hF rfl)
  refine ⟨_, rfl, (by decide), ?_⟩
  refine fun w0 hw0 => ?_; obtain rfl : w0 = some 2 := hw0.symm.trans (FS.g hF rfl)
  refine ⟨_, _, (by decide), rfl, (by decide), (by decide), (by decide), ?_⟩
  refine fun w0 hw0 => ?_; obtain rfl : w0 = some 30 := hw0.symm.trans (FS.g hF rfl)
  refine ⟨⟨_, rfl, (by decide)⟩, ?_⟩
  refine s_X4_copyFrom0 (q := 131) (r := 30) ⟨rfl, rfl, by decide, FS.g hF rfl, FS.g hF rfl, rfl, rfl, rfl, by decide, FS.g hF rfl, FS.g hF rfl⟩ ⟨rfl, rfl, by decide, FS.g hF rfl, FS.g hF rfl, rfl, rfl, rfl, by decide, FS.g hF rfl, FS.g hF rfl⟩ (by decide) (fun I6 f7 => ?_)
  replace f7 := FR.t f5 f7
  refine ⟨fun c => absurd c (show (¬ ((14 : Int) ≤ 3)) from by decide), fun _ => ?_⟩
  refine ⟨_, rfl, (by decide), ?_⟩
  refine fun w0 hw0 => ?_; obtain rfl : w0 = some 103 := hw0.symm.trans (FS.g hF rfl)
  refine ⟨_, _, (by decide), rfl, (by decide), (by decide), (by decide), ?_⟩
  refine fun w0 hw0 => ?_; obtain rfl : w0 = some 136 := hw0.symm.trans (FS.g hF rfl)
  refine ⟨_, rfl, (by decide), ?_⟩
  refine fun w0 hw0 => ?_; obtain rfl : w0 = some 2 := hw0.symm.trans (FS.g hF rfl)
  refine ⟨_, _, (by decide), rfl, (by decide), (by decide), (by decide), ?_⟩
  refine fun w0 hw0 => ?_; obtain rfl : w0 = some 35 := hw0.symm.trans (FS.g hF rfl)
  refine ⟨⟨_, rfl, (by decide)⟩, ?_⟩
  refine s_X4_copyFrom0 (q := 136) (r := 35) ⟨rfl, rfl, by decide, FS.g hF rfl, FS.g hF rfl, rfl, rfl, rfl, by decide, FS.g hF rfl, FS.g hF rfl⟩ ⟨rfl, rfl, by decide, FS.g hF rfl, FS.g hF rfl, rfl, rfl, rfl, by decide, FS.g hF rfl, FS.g hF rfl⟩ (by decide) (fun I8 f9 => ?_)
  replace f9 := FR.t f7 f9
  refine ⟨fun c => absurd c (show (¬ ((14 : Int) ≤ 4)) from by decide), fun _ => ?_⟩
  refine ⟨_, rfl, (by decide), ?_⟩
  refine fun w0 hw0 => ?_; obtain rfl : w0 = some 103 := hw0.symm.trans (FS.g hF rfl)
  refine ⟨_, _, (by decide), rfl, (by decide), (by decide), (by decide), ?_⟩
  refine fun w0 hw0 => ?_; obtain rfl : w0 = some 141 := hw0.symm.trans (FS.g hF rfl)
  refine ⟨_, rfl, (by decide), ?_⟩
  refine fun w0 hw0 => ?_; obtain rfl : w0 = some 2 := hw0.symm.trans (FS.g hF rfl)
  refine ⟨_, _, (by decide), rfl, (by decide), (by decide), (by decide), ?_⟩
  refine fun w0 hw0 => ?_; obtain rfl : w0 = some 40 := hw0.symm.trans (FS.g hF rfl)
  refine ⟨⟨_, rfl, (by decide)⟩, ?_⟩
  refine s_X4_copyFrom0 (q := 141) (r := 40) ⟨rfl, rfl, by decide, FS.g hF rfl, FS.g hF rfl, rfl, rfl, rfl, by decide, FS.g hF rfl, FS.g hF rfl⟩ ⟨rfl, rfl, by decide, FS.g hF rfl, FS.g hF rfl, rfl, rfl, rfl, by decide, FS.g hF rfl, FS.g hF rfl⟩ (by decide) (fun I10 f11 => ?_)
  replace f11 := FR.t f9 f11
  refine ⟨fun c => absurd c (show (¬ ((14 : Int) ≤ 5)) from by decide), fun _ => ?_⟩
  refine ⟨_, rfl, (by decide), ?_⟩
  refine fun w0 hw0 => ?_; obtain rfl : w0 = some 103 := hw0.symm.trans (FS.g hF rfl)
  refine ⟨_, _, (by decide), rfl, (by decide), (by decide), (by decide), ?_⟩
  refine fun w0 hw0 => ?_; obtain rfl : w0 = some 146 := hw0.symm.trans (FS.g hF rfl)
  refine ⟨_, rfl, (by decide), ?_⟩
  refine fun w0 hw0 => ?_; obtain rfl : w0 = some 2 := hw0.symm.trans (FS.g hF rfl)
  refine ⟨_, _, (by decide), rfl, (by decide), (by decide), (by decide), ?_⟩
  refine fun w0 hw0 => ?_; obtain rfl : w0 = some 45 := hw0.symm.trans (FS.g hF rfl)
  refine ⟨⟨_, rfl, (by decide)⟩, ?_⟩
  refine s_X4_copyFrom0 (q := 146) (r := 45) ⟨rfl, rfl, by decide, FS.g hF rfl, FS.g hF rfl, rfl, rfl, rfl, by decide, FS.g hF rfl, FS.g hF rfl⟩ ⟨rfl, rfl, by decide, FS.g hF rfl, FS.g hF rfl, rfl, rfl, rfl, by decide, FS.g hF rfl, FS.g hF rfl⟩ (by decide) (fun I12 f13 => ?_)
  replace f13 := FR.t f11 f13
  refine ⟨fun c => absurd c (show (¬ ((14 : Int) ≤ 6)) from by decide), fun _ => ?_⟩
  refine ⟨_, rfl, (by decide), ?_⟩
  refine fun w0 hw0 => ?_; obtain rfl : w0 = some 103 := hw0.symm.trans (FS.g hF rfl)
  refine ⟨_, _, (by decide), rfl, (by decide), (by decide), (by decide), ?_⟩
  refine fun w0 hw0 => ?_; obtain rfl : w0 = some 151 := hw0.symm.trans (FS.g hF rfl)
  refine ⟨_, rfl, (by decide), ?_⟩
  refine fun w0 hw0 => ?_; obtain rfl : w0 = some 2 := hw0.symm.trans (FS.g hF rfl)
  refine ⟨_, _, (by decide), rfl, (by decide), (by decide), (by decide), ?_⟩
  refine fun w0 hw0 => ?_; obtain rfl : w0 = some 50 := hw0.symm.trans (FS.g hF rfl)
  refine ⟨⟨_, rfl, (by decide)⟩, ?_⟩
  refine s_X4_copyFrom0 (q := 151) (r := 50) ⟨rfl, rfl, by decide, FS.g hF rfl, FS.g hF rfl, rfl, rfl, rfl, by decide, FS.g hF rfl, FS.g hF rfl⟩ ⟨rfl, rfl, by decide, FS.g hF rfl, FS.g hF rfl, rfl, rfl, rfl, by decide, FS.g hF rfl, FS.g hF rfl⟩ (by decide) (fun I14 f15 => ?_)
  replace f15 := FR.t f13 f15
  refine ⟨fun c => absurd c (show (¬ ((14 : Int) ≤ 7)) from by decide), fun _ => ?_⟩
  refine ⟨_, rfl, (by decide), ?_⟩
  refine fun w0 hw0 => ?_; obtain rfl : w0 = some 103 := hw0.symm.trans (FS.g hF rfl)
  refine ⟨_, _, (by decide), rfl, (by decide), (by decide), (by decide), ?_⟩
  refine fun w0 hw0 => ?_; obtain rfl : w0 = some 156 := hw0.symm.trans (FS.g hF rfl)
  refine ⟨_, rfl, (by decide), ?_⟩
  refine fun w0 hw0 => ?_; obtain rfl : w0 = some 2 := hw0.symm.trans (FS.g hF rfl)
  refine ⟨_, _, (by decide), rfl, (by decide), (by decide), (by decide), ?_⟩
  refine fun w0 hw0 => ?_; obtain rfl : w0 = some 55 := hw0.symm.trans (FS.g hF rfl)
  refine ⟨⟨_, rfl, (by decide)⟩, ?_⟩
  refine s_X4_copyFrom0 (q := 156) (r := 55) ⟨rfl, rfl, by decide, FS.g hF rfl, FS.g hF rfl, rfl, rfl, rfl, by decide, FS.g hF rfl, FS.g hF rfl⟩ ⟨rfl, rfl, by decide, FS.g hF rfl, FS.g hF rfl, rfl, rfl, rfl, by decide, FS.g hF rfl, FS.g hF rfl⟩ (by decide) (fun I16 f17 => ?_)
  replace f17 := FR.t f15 f17
  refine ⟨fun c => absurd c (show (¬ ((14 : Int) ≤ 8)) from by decide), fun _ => ?_⟩
  refine ⟨_, rfl, (by decide), ?_⟩
  refine fun w0 hw0 => ?_; obtain rfl : w0 = some 103 := hw0.symm.trans (FS.g hF rfl)
  refine ⟨_, _, (by decide), rfl, (by decide), (by decide), (by decide), ?_⟩
  refine fun w0 hw0 => ?_; obtain rfl : w0 = some 161 := hw0.symm.trans (FS.g hF rfl)
  refine ⟨_, rfl, (by decide), ?_⟩
  refine fun w0 hw0 => ?_; obtain rfl : w0 = some 2 := hw0.symm.trans (FS.g hF rfl)
  refine ⟨_, _, (by decide), rfl, (by decide), (by decide), (by decide), ?_⟩
  refine fun w0 hw0 => ?_; obtain rfl : w0 = some 60 := hw0.symm.trans (FS.g hF rfl)
  refine ⟨⟨_, rfl, (by decide)⟩, ?_⟩
  refine s_X4_copyFrom0 (q := 161) (r := 60) ⟨rfl, rfl, by decide, FS.g hF rfl, FS.g hF rfl, rfl, rfl, rfl, by decide, FS.g hF rfl, FS.g hF rfl⟩ ⟨rfl, rfl, by decide, FS.g hF rfl, FS.g hF rfl, rfl, rfl, rfl, by decide, FS.g hF rfl, FS.g hF rfl⟩ (by decide) (fun I18 f19 => ?_)
  replace f19 := FR.t f17 f19
  refine ⟨fun c => absurd c (show (¬ ((14 : Int) ≤ 9)) from by decide), fun _ => ?_⟩
  refine ⟨_, rfl, (by decide), ?_⟩
  refine fun w0 hw0 => ?_; obtain rfl : w0 = some 103 := hw0.symm.trans (FS.g hF rfl)
  refine ⟨_, _, (by decide), rfl, (by decide), (by decide), (by decide), ?_⟩
  refine fun w0 hw0 => ?_; obtain rfl : w0 = some 166 := hw0.symm.trans (FS.g hF rfl)
  refine ⟨_, rfl, (by decide), ?_⟩
  refine fun w0 hw0 => ?_; obtain rfl : w0 = some 2 := hw0.symm.trans (FS.g hF rfl)
  refine ⟨_, _, (by decide), rfl, (by decide), (by decide), (by decide), ?_⟩
  refine fun w0 hw0 => ?_; obtain rfl : w0 = some 65 := hw0.symm.trans (FS.g hF rfl)
  refine ⟨⟨_, rfl, (by decide)⟩, ?_⟩
  refine s_X4_copyFrom0 (q := 166) (r := 65) ⟨rfl, rfl, by decide, FS.g hF rfl, FS.g hF rfl, rfl, rfl, rfl, by decide, FS.g hF rfl, FS.g hF rfl⟩ ⟨rfl, rfl, by decide, FS.g hF rfl, FS.g hF rfl, rfl, rfl, rfl, by decide, FS.g hF rfl, FS.g hF rfl⟩ (by decide) (fun I20 f21 => ?_)
  replace f21 := FR.t f19 f21
  refine ⟨fun c => absurd c (show (¬ ((14 : Int) ≤ 10)) from by decide), fun _ => ?_⟩
  refine ⟨_, rfl, (by decide), ?_⟩
  refine fun w0 hw0 => ?_; obtain rfl : w0 = some 103 := hw0.symm.trans (FS.g hF rfl)
  refine ⟨_, _, (by decide), rfl, (by decide), (by decide), (by decide), ?_⟩
  refine fun w0 hw0 => ?_; obtain rfl : w0 = some 171 := hw0.symm.trans (FS.g hF rfl)
  refine ⟨_, rfl, (by decide), ?_⟩
  refine fun w0 hw0 => ?_; obtain rfl : w0 = some 2 := hw0.symm.trans (FS.g hF rfl)
  refine ⟨_, _, (by decide), rfl, (by decide), (by decide), (by decide), ?_⟩
  refine fun w0 hw0 => ?_; obtain rfl : w0 = some 70 := hw0.symm.trans (FS.g hF rfl)
  refine ⟨⟨_, rfl, (by decide)⟩, ?_⟩
  refine s_X4_copyFrom0 (q := 171) (r := 70) ⟨rfl, rfl, by decide, FS.g hF rfl, FS.g hF rfl, rfl, rfl, rfl, by decide, FS.g hF rfl, FS.g hF rfl⟩ ⟨rfl, rfl, by decide, FS.g hF rfl, FS.g hF rfl, rfl, rfl, rfl, by decide, FS.g hF rfl, FS.g hF rfl⟩ (by decide) (fun I22 f23 => ?_)
  replace f23 := FR.t f21 f23
  refine ⟨fun c => absurd c (show (¬ ((14 : Int) ≤ 11)) from by decide), fun _ => ?_⟩
  refine ⟨_, rfl, (by decide), ?_⟩
  refine fun w0 hw0 => ?_; obtain rfl : w0 = some 103 := hw0.symm.trans (FS.g hF rfl)
  refine ⟨_, _, (by decide), rfl, (by decide), (by decide), (by decide), ?_⟩
  refine fun w0 hw0 => ?_; obtain rfl : w0 = some 176 := hw0.symm.trans (FS.g hF rfl)
  refine ⟨_, rfl, (by decide), ?_⟩
  refine fun w0 hw0 => ?_; obtain rfl : w0 = some 2 := hw0.symm.trans (FS.g hF rfl)
  refine ⟨_, _, (by decide), rfl, (by decide), (by decide), (by decide), ?_⟩
  refine fun w0 hw0 => ?_; obtain rfl : w0 = some 75 := hw0.symm.trans (FS.g hF rfl)
  refine ⟨⟨_, rfl, (by decide)⟩, ?_⟩
  refine s_X4_copyFrom0 (q := 176) (r := 75) ⟨rfl, rfl, by decide, FS.g hF rfl, FS.g hF rfl, rfl, rfl, rfl, by decide, FS.g hF rfl, FS.g hF rfl⟩ ⟨rfl, rfl, by decide, FS.g hF rfl, FS.g hF rfl, rfl, rfl, rfl, by decide, FS.g hF rfl, FS.g hF rfl⟩ (by decide) (fun I24 f25 => ?_)
  replace f25 := FR.t f23 f25
  refine ⟨fun c => absurd c (show (¬ ((14 : Int) ≤ 12)) from by decide), fun _ => ?_⟩
  refine ⟨_, rfl, (by decide), ?_⟩
  refine fun w0 hw0 => ?_; obtain rfl : w0 = some 103 := hw0.symm.trans (FS.g hF rfl)
  refine ⟨_, _, (by decide), rfl, (by decide), (by decide), (by decide), ?_⟩
  refine fun w0 hw0 => ?_; obtain rfl : w0 = some 181 := hw0.symm.trans (FS.g hF rfl)
  refine ⟨_, rfl, (by decide), ?_⟩
  refine fun w0 hw0 => ?_; obtain rfl : w0 = some 2 := hw0.symm.trans (FS.g hF rfl)
  refine ⟨_, _, (by decide), rfl, (by decide), (by decide), (by decide), ?_⟩
  refine fun w0 hw0 => ?_; obtain rfl : w0 = some 80 := hw0.symm.trans (FS.g hF rfl)
  refine ⟨⟨_, rfl, (by decide)⟩, ?_⟩
  refine s_X4_copyFrom0 (q := 181) (r := 80) ⟨rfl, rfl, by decide, FS.g hF rfl, FS.g hF rfl, rfl, rfl, rfl, by decide, FS.g hF rfl, FS.g hF rfl⟩ ⟨rfl, rfl, by decide, FS.g hF rfl, FS.g hF rfl, rfl, rfl, rfl, by decide, FS.g hF rfl, FS.g hF rfl⟩ (by decide) (fun I26 f27 => ?_)
  replace f27 := FR.t f25 f27
  refine ⟨fun c => absurd c (show (¬ ((14 : Int) ≤ 13)) from by decide), fun _ => ?_⟩
  refine ⟨_, rfl, (by decide), ?_⟩
  refine fun w0 hw0 => ?_; obtain rfl : w0 = some 103 := hw0.symm.trans (FS.g hF rfl)
  refine ⟨_, _, (by decide), rfl, (by decide), (by decide), (by decide), ?_⟩
  refine fun w0 hw0 => ?_; obtain rfl : w0 = some 186 := hw0.symm.trans (FS.g hF rfl)
  refine ⟨_, rfl, (by decide), ?_⟩
  refine fun w0 hw0 => ?_; obtain rfl : w0 = some 2 := hw0.symm.trans (FS.g hF rfl)
  refine ⟨_, _, (by decide), rfl, (by decide), (by decide), (by decide), ?_⟩
  refine fun w0 hw0 => ?_; obtain rfl : w0 = some 85 := hw0.symm.trans (FS.g hF rfl)
  refine ⟨⟨_, rfl, (by decide)⟩, ?_⟩
  refine s_X4_copyFrom0 (q := 186) (r := 85) ⟨rfl, rfl, by decide, FS.g hF rfl, FS.g hF rfl, rfl, rfl, rfl, by decide, FS.g hF rfl, FS.g hF rfl⟩ ⟨rfl, rfl, by decide, FS.g hF rfl, FS.g hF rfl, rfl, rfl, rfl, by decide, FS.g hF rfl, FS.g hF rfl⟩ (by decide) (fun I28 f29 => ?_)
  replace f29 := FR.t f27 f29
  refine ⟨fun _ => ?_, fun c => absurd (show ((14 : Int) ≤ 14) from by decide) c⟩
  refine ⟨fun c => absurd c (show (¬ ((4 : Int) ≤ 0)) from by decide), fun _ => ?_⟩
  refine ⟨_, rfl, (by decide), ?_⟩
  refine fun w0 hw0 => ?_; obtain rfl : w0 = some 104 := hw0.symm.trans (FS.g hF rfl)
  refine ⟨_, _, (by decide), rfl, (by decide), (by decide), (by decide), ?_⟩
  refine fun w0 hw0 => ?_; obtain rfl : w0 = some 191 := hw0.symm.trans (FS.g hF rfl)
  refine ⟨_, rfl, (by decide), ?_⟩
  refine fun w0 hw0 => ?_; obtain rfl : w0 = some 3 := hw0.symm.trans (FS.g hF rfl)
  refine ⟨_, _, (by decide), rfl, (by decide), (by decide), (by decide), ?_⟩
  refine fun w0 hw0 => ?_; obtain rfl : w0 = some 90 := hw0.symm.trans (FS.g hF rfl)
  refine ⟨⟨_, rfl, (by decide)⟩, ?_⟩
  refine Call_wp (lv := [some (vr 191), some (vr 90)]) (by decide) ckX5_copyFrom [] rfl rfl ?_
  refine ⟨_, rfl, (by decide), ?_⟩
  have r30 : (I28 90 0) = 0 := ((f29 90 0 (by decide)).trans (hX.i rfl))
  refine ⟨_, rfl, (by decide), (show ((I28 90 0) : Int) = 0 ∨ ((I28 90 0) : Int) = 1 from by omega), ?_⟩
  refine ⟨_, rfl, (by decide), ?_⟩
  refine fun w0 hw0 => ?_; obtain rfl : w0 = some 91 := hw0.symm.trans (FS.g hF rfl)
  refine ⟨_, rfl, (by decide), ?_⟩
  refine fun w0 hw0 => ?_; obtain rfl : w0 = some 192 := hw0.symm.trans (FS.g hF rfl)
  refine ⟨_, _, _, (by decide), rfl, rfl, (by decide), (by decide), (by decide), (by decide), (by decide), (by decide), (by decide), (by decide), (by omega), ?_⟩
  refine ⟨_, rfl, (by decide), ?_⟩
  refine fun w0 hw0 => ?_; obtain rfl : w0 = some 92 := hw0.symm.trans (FS.g hF rfl)
  refine ⟨_, rfl, (by decide), ?_⟩
  refine fun w0 hw0 => ?_; obtain rfl : w0 = some 193 := hw0.symm.trans (FS.g hF rfl)
  refine ⟨_, _, _, (by decide), rfl, rfl, (by decide), (by decide), (by decide), (by decide), (by decide), (by decide), (by decide), (by decide), (by omega), ?_⟩
  refine ⟨_, rfl, (by decide), ?_⟩
  have r31 : (I28 90 3) = 0 := ((f29 90 3 (by decide)).trans (hX.i rfl))
  refine ⟨_, rfl, (by decide), ?_⟩
  refine ⟨_, rfl, (by decide), ?_⟩
  have r32 : (I28 90 4) = 0 := ((f29 90 4 (by decide)).trans (hX.i rfl))
  refine ⟨_, rfl, (by decide), ?_⟩
  refine ⟨rfl, ?_⟩
  refine ⟨fun c => absurd c (show (¬ ((4 : Int) ≤ 1)) from by decide), fun _ => ?_⟩
  refine ⟨_, rfl, (by decide), ?_⟩
  refine fun w0 hw0 => ?_; obtain rfl : w0 = some 104 := hw0.symm.trans (FS.g hF rfl)
  refine ⟨_, _, (by decide), rfl, (by decide), (by decide), (by decide), ?_⟩
  refine fun w0 hw0 => ?_; obtain rfl : w0 = some 194 := hw0.symm.trans (FS.g hF rfl)
  refine ⟨_, rfl, (by decide), ?_⟩
  refine fun w0 hw0 => ?_; obtain rfl : w0 = some 3 := hw0.symm.trans (FS.g hF rfl)
  refine ⟨_, _, (by decide), rfl, (by decide), (by decide), (by decide), ?_⟩
  refine fun w0 hw0 => ?_; obtain rfl : w0 = some 93 := hw0.symm.trans (FS.g hF rfl)
  refine ⟨⟨_, rfl, (by decide)⟩, ?_⟩
  refine Call_wp (lv := [some (vr 194), some (vr 93)]) (by decide) ckX5_copyFrom [] rfl rfl ?_
  refine ⟨_, rfl, (by decide), ?_⟩
  have r33 : (I28 93 0) = 0 := ((f29 93 0 (by decide)).trans (hX.i rfl))
  refine ⟨_, rfl, (by decide), (show ((I28 93 0) : Int) = 0 ∨ ((I28 93 0) : Int) = 1 from by omega), ?_⟩
  refine ⟨_, rfl, (by decide), ?_⟩
  refine fun w0 hw0 => ?_; obtain rfl : w0 = some 94 := hw0.symm.trans (FS.g hF rfl)
  refine ⟨_, rfl, (by decide), ?_⟩
  refine fun w0 hw0 => ?_; obtain rfl : w0 = some 195 := hw0.symm.trans (FS.g hF rfl)
  refine ⟨_, _, _, (by decide), rfl, rfl, (by decide), (by decide), (by decide), (by decide), (by decide), (by decide), (by decide), (by decide), (by omega), ?_⟩
  refine ⟨_, rfl, (by decide), ?_⟩
  refine fun w0 hw0 => ?_; obtain rfl : w0 = some 95 := hw0.symm.trans (FS.g hF rfl)
  refine ⟨_, rfl, (by decide), ?_⟩
  refine fun w0 hw0 => ?_; obtain rfl : w0 = some 196 := hw0.symm.trans (FS.g hF rfl)
  refine ⟨_, _, _, (by decide), rfl, rfl, (by decide), (by decide), (by decide), (by decide), (by decide), (by decide), (by decide), (by decide), (by omega), ?_⟩
  refine ⟨_, rfl, (by decide), ?_⟩
  have r34 : (I28 93 3) = 0 := ((f29 93 3 (by decide)).trans (hX.i rfl))
  refine ⟨_, rfl, (by decide), ?_⟩
  refine ⟨_, rfl, (by decide), ?_⟩
  have r35 : (I28 93 4) = 0 := ((f29 93 4 (by decide)).trans (hX.i rfl))
  refine ⟨_, rfl, (by decide), ?_⟩
  refine ⟨rfl, ?_⟩
  refine ⟨fun c => absurd c (show (¬ ((4 : Int) ≤ 2)) from by decide), fun _ => ?_⟩
  refine ⟨_, rfl, (by decide), ?_⟩
  refine fun w0 hw0 => ?_; obtain rfl : w0 = some 104 := hw0.symm.trans (FS.g hF rfl)
  refine ⟨_, _, (by decide), rfl, (by decide), (by decide), (by decide), ?_⟩
  refine fun w0 hw0 => ?_; obtain rfl : w0 = some 197 := hw0.symm.trans (FS.g hF rfl)
  refine ⟨_, rfl, (by decide), ?_⟩
  refine fun w0 hw0 => ?_; obtain rfl : w0 = some 3 := hw0.symm.trans (FS.g hF rfl)
  refine ⟨_, _, (by decide), rfl, (by decide), (by decide), (by decide), ?_⟩
  refine fun w0 hw0 => ?_; obtain rfl : w0 = some 96 := hw0.symm.trans (FS.g hF rfl)
  refine ⟨⟨_, rfl, (by decide)⟩, ?_⟩
  refine Call_wp (lv := [some (vr 197), some (vr 96)]) (by decide) ckX5_copyFrom [] rfl rfl ?_
  refine ⟨_, rfl, (by decide), ?_⟩
  have r36 : (I28 96 0) = 0 := ((f29 96 0 (by decide)).trans (hX.i rfl))
  refine ⟨_, rfl, (by decide), (show ((I28 96 0) : Int) = 0 ∨ ((I28 96 0) : Int) = 1 from by omega), ?_⟩
  refine ⟨_, rfl, (by decide), ?_⟩
  refine fun w0 hw0 => ?_; obtain rfl : w0 = some 97 := hw0.symm.trans (FS.g hF rfl)
  refine ⟨_, rfl, (by decide), ?_⟩
  refine fun w0 hw0 => ?_; obtain rfl : w0 = some 198 := hw0.symm.trans (FS.g hF rfl)
  refine ⟨_, _, _, (by decide), rfl, rfl, (by decide), (by decide), (by decide), (by decide), (by decide), (by decide), (by decide), (by decide), (by omega), ?_⟩
  refine ⟨_, rfl, (by decide), ?_⟩
  refine fun w0 hw0 => ?_; obtain rfl : w0 = some 98 := hw0.symm.trans (FS.g hF rfl)
  refine ⟨_, rfl, (by decide), ?_⟩
  refine fun w0 hw0 => ?_; obtain rfl : w0 = some 199 := hw0.symm.trans (FS.g hF rfl)
  refine ⟨_, _, _, (by decide), rfl, rfl, (by decide), (by decide), (by decide), (by decide), (by decide), (by decide), (by decide), (by decide), (by omega), ?_⟩
  refine ⟨_, rfl, (by decide), ?_⟩
  have r37 : (I28 96 3) = 0 := ((f29 96 3 (by decide)).trans (hX.i rfl))
  refine ⟨_, rfl, (by decide), ?_⟩
  refine ⟨_, rfl, (by decide), ?_⟩
  have r38 : (I28 96 4) = 0 := ((f29 96 4 (by decide)).trans (hX.i rfl))
  refine ⟨_, rfl, (by decide), ?_⟩
  refine ⟨rfl, ?_⟩
  refine ⟨fun c => absurd c (show (¬ ((4 : Int) ≤ 3)) from by decide), fun _ => ?_⟩
  refine ⟨_, rfl, (by decide), ?_⟩
  refine fun w0 hw0 => ?_; obtain rfl : w0 = some 104 := hw0.symm.trans (FS.g hF rfl)
  refine ⟨_, _, (by decide), rfl, (by decide), (by decide), (by decide), ?_⟩
  refine fun w0 hw0 => ?_; obtain rfl : w0 = some 200 := hw0.symm.trans (FS.g hF rfl)
  refine ⟨_, rfl, (by decide), ?_⟩
  refine fun w0 hw0 => ?_; obtain rfl : w0 = some 3 := hw0.symm.trans (FS.g hF rfl)
  refine ⟨_, _, (by decide), rfl, (by decide), (by decide), (by decide), ?_⟩
  refine fun w0 hw0 => ?_; obtain rfl : w0 = some 99 := hw0.symm.trans (FS.g hF rfl)
  refine ⟨⟨_, rfl, (by decide)⟩, ?_⟩
  refine Call_wp (lv := [some (vr 200), some (vr 99)]) (by decide) ckX5_copyFrom [] rfl rfl ?_
  refine ⟨_, rfl, (by decide), ?_⟩
  have r39 : (I28 99 0) = 0 := ((f29 99 0 (by decide)).trans (hX.i rfl))
  refine ⟨_, rfl, (by decide), (show ((I28 99 0) : Int) = 0 ∨ ((I28 99 0) : Int) = 1 from by omega), ?_⟩
  refine ⟨_, rfl, (by decide), ?_⟩
  refine fun w0 hw0 => ?_; obtain rfl : w0 = some 100 := hw0.symm.trans (FS.g hF rfl)
  refine ⟨_, rfl, (by decide), ?_⟩
  refine fun w0 hw0 => ?_; obtain rfl : w0 = some 201 := hw0.symm.trans (FS.g hF rfl)
  refine ⟨_, _, _, (by decide), rfl, rfl, (by decide), (by decide), (by decide), (by decide), (by decide), (by decide), (by decide), (by decide), (by omega), ?_⟩
  refine ⟨_, rfl, (by decide), ?_⟩
  refine fun w0 hw0 => ?_; obtain rfl : w0 = some 101 := hw0.symm.trans (FS.g hF rfl)
  refine ⟨_, rfl, (by decide), ?_⟩
  refine fun w0 hw0 => ?_; obtain rfl : w0 = some 202 := hw0.symm.trans (FS.g hF rfl)
  refine ⟨_, _, _, (by decide), rfl, rfl, (by decide), (by decide), (by decide), (by decide), (by decide), (by decide), (by decide), (by decide), (by omega), ?_⟩
  refine ⟨_, rfl, (by decide), ?_⟩
  have r40 : (I28 99 3) = 0 := ((f29 99 3 (by decide)).trans (hX.i rfl))
  refine ⟨_, rfl, (by decide), ?_⟩
  refine ⟨_, rfl, (by decide), ?_⟩
  have r41 : (I28 99 4) = 0 := ((f29 99 4 (by decide)).trans (hX.i rfl))
  refine ⟨_, rfl, (by decide), ?_⟩
  refine ⟨rfl, ?_⟩
  refine ⟨fun _ => ?_, fun c => absurd (show ((4 : Int) ≤ 4) from by decide) c⟩
  refine ⟨_, rfl, (by decide), ?_⟩
  refine fun w0 hw0 => ?_; obtain rfl : w0 = some 4 := hw0.symm.trans (FS.g hF rfl)
  refine ⟨_, rfl, (by decide), ?_⟩
  refine fun w0 hw0 => ?_; obtain rfl : w0 = some 105 := hw0.symm.trans (FS.g hF rfl)
  refine ⟨_, _, _, (by decide), rfl, rfl, (by decide), (by decide), (by decide), (by decide), (by decide), (by decide), (by decide), (by decide), (by omega), ?_⟩
  refine ⟨_, rfl, (by decide), ?_⟩
  refine fun w0 hw0 => ?_; obtain rfl : w0 = some 5 := hw0.symm.trans (FS.g hF rfl)
  refine ⟨_, rfl, (by decide), ?_⟩
  refine fun w0 hw0 => ?_; obtain rfl : w0 = some 106 := hw0.symm.trans (FS.g hF rfl)
  refine ⟨_, _, _, (by decide), rfl, rfl, (by decide), (by decide), (by decide), (by decide), (by decide), (by decide), (by decide), (by decide), (by omega), ?_⟩
  refine ⟨_, rfl, (by decide), ?_⟩
  have r42 : (I28 1 5) = 0 := ((f29 1 5 (by decide)).trans (hX.i rfl))
  refine ⟨_, rfl, (by decide), ?_⟩
  refine ⟨_, rfl, (by decide), ?_⟩
  refine fun w0 hw0 => ?_; obtain rfl : w0 = some 6 := hw0.symm.trans (FS.g hF rfl)
  refine ⟨_, rfl, (by decide), ?_⟩
  refine fun w0 hw0 => ?_; obtain rfl : w0 = some 107 := hw0.symm.trans (FS.g hF rfl)
  refine ⟨_, _, _, (by decide), rfl, rfl, (by decide), (by decide), (by decide), (by decide), (by decide), (by decide), (by decide), (by decide), (by omega), ?_⟩
  refine ⟨_, rfl, (by decide), ?_⟩
  have r43 : (I28 1 7) = 0 := ((f29 1 7 (by decide)).trans (hX.i rfl))
  refine ⟨_, rfl, (by decide), (show ((I28 1 7) : Int) = 0 ∨ ((I28 1 7) : Int) = 1 from by omega), ?_⟩
  refine ⟨_, rfl, (by decide), ?_⟩
  refine fun w0 hw0 => ?_; obtain rfl : w0 = some 108 := hw0.symm.trans (FS.g hF rfl)
  refine ⟨_, rfl, (by decide), ?_⟩
  refine fun w0 hw0 => ?_; obtain rfl : w0 = some 7 := hw0.symm.trans (FS.g hF rfl)
  refine ⟨⟨_, rfl, (by decide)⟩, ?_⟩
  refine Call_wp (lv := [some (vr 108), some (vr 7)]) (by decide) ckX2_copyFrom [] rfl rfl ?_
  refine ⟨_, rfl, (by decide), ?_⟩
  refine fun w0 hw0 => ?_; obtain rfl : w0 = some 8 := hw0.symm.trans (FS.g hF rfl)
  refine ⟨_, rfl, (by decide), ?_⟩
  refine fun w0 hw0 => ?_; obtain rfl : w0 = some 109 := hw0.symm.trans (FS.g hF rfl)
  refine ⟨_, _, _, (by decide), rfl, rfl, (by decide), (by decide), (by decide), (by decide), (by decide), (by decide), (by decide), (by decide), (by omega), ?_⟩
  refine ⟨_, rfl, (by decide), ?_⟩
  refine fun w0 hw0 => ?_; obtain rfl : w0 = some 9 := hw0.symm.trans (FS.g hF rfl)
  refine ⟨_, rfl, (by decide), ?_⟩
  refine fun w0 hw0 => ?_; obtain rfl : w0 = some 110 := hw0.symm.trans (FS.g hF rfl)
  refine ⟨_, _, _, (by decide), rfl, rfl, (by decide), (by decide), (by decide), (by decide), (by decide), (by decide), (by decide), (by decide), (by omega), ?_⟩
  refine ⟨_, rfl, (by decide), ?_⟩
  refine fun w0 hw0 => ?_; obtain rfl : w0 = some 10 := hw0.symm.trans (FS.g hF rfl)
  refine ⟨_, rfl, (by decide), ?_⟩
  refine fun w0 hw0 => ?_; obtain rfl : w0 = some 111 := hw0.symm.trans (FS.g hF rfl)
  refine ⟨_, _, _, (by decide), rfl, rfl, (by decide), (by decide), (by decide), (by decide), (by decide), (by decide), (by decide), (by decide), (by omega), ?_⟩
  refine ⟨_, rfl, (by decide), ?_⟩
  refine fun w0 hw0 => ?_; obtain rfl : w0 = some 11 := hw0.symm.trans (FS.g hF rfl)
  refine ⟨_, rfl, (by decide), ?_⟩
  refine fun w0 hw0 => ?_; obtain rfl : w0 = some 112 := hw0.symm.trans (FS.g hF rfl)
  refine ⟨_, _, _, (by decide), rfl, rfl, (by decide), (by decide), (by decide), (by decide), (by decide), (by decide), (by decide), (by decide), (by omega), ?_⟩
  refine ⟨rfl, ?_⟩
  refine ⟨_, rfl, (by decide), ?_⟩
  refine fun w0 hw0 => ?_; obtain rfl : w0 = some 113 := hw0.symm.trans (FS.g hF rfl)
  refine ⟨_, rfl, (by decide), ?_⟩
  refine fun w0 hw0 => ?_; obtain rfl : w0 = some 12 := hw0.symm.trans (FS.g hF rfl)
  refine ⟨⟨_, rfl, (by decide)⟩, ?_⟩
  refine Call_wp (lv := [some (vr 113), some (vr 12)]) (by decide) ckX0_copyFrom [] rfl rfl ?_
  refine ⟨_, rfl, (by decide), ?_⟩
  refine fun w0 hw0 => ?_; obtain rfl : w0 = some 13 := hw0.symm.trans (FS.g hF rfl)
  refine ⟨_, rfl, (by decide), ?_⟩
  refine fun w0 hw0 => ?_; obtain rfl : w0 = some 114 := hw0.symm.trans (FS.g hF rfl)
  refine ⟨_, _, _, (by decide), rfl, rfl, (by decide), (by decide), (by decide), (by decide), (by decide), (by decide), (by decide), (by decide), (by omega), ?_⟩
  refine ⟨_, rfl, (by decide), ?_⟩
  refine fun w0 hw0 => ?_; obtain rfl : w0 = some 14 := hw0.symm.trans (FS.g hF rfl)
  refine ⟨_, rfl, (by decide), ?_⟩
  refine fun w0 hw0 => ?_; obtain rfl : w0 = some 115 := hw0.symm.trans (FS.g hF rfl)
  refine ⟨_, _, _, (by decide), rfl, rfl, (by decide), (by decide), (by decide), (by decide), (by decide), (by decide), (by decide), (by decide), (by omega), ?_⟩
  refine ⟨_, rfl, (by decide), ?_⟩
  refine fun w0 hw0 => ?_; obtain rfl : w0 = some 15 := hw0.symm.trans (FS.g hF rfl)
  refine ⟨_, rfl, (by decide), ?_⟩
  refine fun w0 hw0 => ?_; obtain rfl : w0 = some 116 := hw0.symm.trans (FS.g hF rfl)
  refine ⟨_, _, _, (by decide), rfl, rfl, (by decide), (by decide), (by decide), (by decide), (by decide), (by decide), (by decide), (by decide), (by omega), ?_⟩
  refine ⟨_, rfl, (by decide), ?_⟩
  refine fun w0 hw0 => ?_; obtain rfl : w0 = some 16 := hw0.symm.trans (FS.g hF rfl)
  refine ⟨_, rfl, (by decide), ?_⟩
  refine fun w0 hw0 => ?_; obtain rfl : w0 = some 117 := hw0.symm.trans (FS.g hF rfl)
  refine ⟨_, _, _, (by decide), rfl, rfl, (by decide), (by decide), (by decide), (by decide), (by decide), (by decide), (by decide), (by decide), (by omega), ?_⟩
  refine ⟨_, rfl, (by decide), ?_⟩
  refine fun w0 hw0 => ?_; obtain rfl : w0 = some 17 := hw0.symm.trans (FS.g hF rfl)
  refine ⟨_, rfl, (by decide), ?_⟩
  refine fun w0 hw0 => ?_; obtain rfl : w0 = some 118 := hw0.symm.trans (FS.g hF rfl)
  refine ⟨_, _, _, (by decide), rfl, rfl, (by decide), (by decide), (by decide), (by decide), (by decide), (by decide), (by decide), (by decide), (by omega), ?_⟩
  refine ⟨_, rfl, (by decide), ?_⟩
  refine fun w0 hw0 => ?_; obtain rfl : w0 = some 18 := hw0.symm.trans (FS.g hF rfl)
  refine ⟨_, rfl, (by decide), ?_⟩
  refine fun w0 hw0 => ?_; obtain rfl : w0 = some 119 := hw0.symm.trans (FS.g hF rfl)
  refine ⟨_, _, _, (by decide), rfl, rfl, (by decide), (by decide), (by decide), (by decide), (by decide), (by decide), (by decide), (by decide), (by omega), ?_⟩
  refine ⟨_, rfl, (by decide), ?_⟩
  have r44 : (I28 12 6) = 0 := ((f29 12 6 (by decide)).trans (hX.i rfl))
  refine ⟨_, rfl, (by decide), ?_⟩
  refine ⟨rfl, ?_⟩
  refine ⟨_, rfl, (by decide), ?_⟩
  refine fun w0 hw0 => ?_; obtain rfl : w0 = some 19 := hw0.symm.trans (FS.g hF rfl)
  refine ⟨_, rfl, (by decide), ?_⟩
  refine fun w0 hw0 => ?_; obtain rfl : w0 = some 120 := hw0.symm.trans (FS.g hF rfl)
  refine ⟨_, _, _, (by decide), rfl, rfl, (by decide), (by decide), (by decide), (by decide), (by decide), (by decide), (by decide), (by decide), (by omega), ?_⟩
  refine ⟨_, rfl, (by decide), ?_⟩
  have r45 : (I28 1 11) = 0 := ((f29 1 11 (by decide)).trans (hX.i rfl))
  refine ⟨_, rfl, (by decide), ?_⟩
  exact ⟨rfl, hQ _ (FR.u (FR.c (FR.u (FR.c (FR.c (FR.c (FR.c (FR.c (FR.c (FR.c (FR.c (FR.c (FR.c (FR.u (FR.c (FR.u (FR.c (FR.c (FR.u (FR.u (FR.c (FR.c (FR.u (FR.u (FR.u (FR.c (FR.c (FR.u (FR.u (FR.u (FR.c (FR.c (FR.u (FR.u (FR.u (FR.c (FR.c (FR.u f29 (by decide)) (by decide)) (by decide)) (by decide)) (by decide)) (by decide)) (by decide)) (by decide)) (by decide)) (by decide)) (by decide)) (by decide)) (by decide)) (by decide)) (by decide)) (by decide)) (by decide)) (by decide)) (by decide)) (by decide)) (by decide)) (by decide)) (by decide)) (by decide)) (by decide)) (by decide)) (by decide)) (by decide)) (by decide)) (by decide)) (by decide)) (by decide)) (by decide)) (by decide)) (by decide)) (by decide)) (by decide)) (by decide))⟩
theorem x_image (hF : FS F) (hX : FX I) (hQ : ∀ F' I', FS F' → MS I I' → Q (some (vi (1))) F' I') : CallN G (d + 12) kX11_image [vr 0] NP F I Q := by
  refine Call_wp (lv := [some (vr 0)]) (by decide) ckX11_image [] rfl rfl ?_
  refine ⟨_, rfl, (by decide), ?_⟩
  refine fun w0 hw0 => ?_; obtain rfl : w0 = some 102 := hw0.symm.trans (FS.g hF rfl)
  refine ⟨_, rfl, (by decide), ?_⟩
  refine fun w0 hw0 => ?_; obtain rfl : w0 = some 1 := hw0.symm.trans (FS.g hF rfl)
  refine ⟨⟨_, rfl, (by decide)⟩, ?_⟩
  refine s_X8_copyFrom0 hF hX (fun I1 f2 => ?_)
  refine ⟨_, rfl, (by decide), ?_⟩
  have r3 : (I1 0 2) = 0 := ((f2 0 2 (by decide)).trans (hX.i rfl))
  refine ⟨_, rfl, (by decide), ?_⟩
  refine ⟨_, rfl, (by decide), ?_⟩
  have e : 1 = (wr ((I1 0 2) + 1)) := by (skip; (repeat' split) <;> first | rfl | omega | (simp only [wr, wl] at *; omega))
  rw [e] at hQ
  exact ⟨rfl, hQ _ _ hF (MS.u (FR.ms f2) (by decide))⟩
theorem m_copy_loop (hF : FS F) : ∀ (m : Nat) (k : Int) (I : pI), 0 ≤ k → k + m = 1340 → (∀ I', (∀ j, I' 235 j = I 235 j) → Q none F I') → GoN G d kX12_copy NP NP 2 [some (vr 236), some (vr 237), some (vi k)] [] F I Q := by
  intro m
  induction m with
  | zero =>
    intro k I hk hm hQ
    refine Go_wp (by decide) ckX12_copy [2] ?_
    refine ⟨fun _ => ?_, fun c => absurd (show ((1340 : Int) ≤ k) from by first | omega | (simp only [wr, wl] at *; omega)) c⟩
    exact ⟨rfl, hQ _ (fun _ => rfl)⟩
  | succ m ih =>
    intro k I hk hm hQ
    refine Go_wp (by decide) ckX12_copy [2] ?_
    refine ⟨fun c => absurd c (show (¬ ((1340 : Int) ≤ k)) from by first | omega | (simp only [wr, wl] at *; omega)), fun _ => ?_⟩
    refine ⟨_, rfl, (by decide), (by first | omega | (simp only [wr, wl] at *; omega)), (by first | omega | (simp only [wr, wl] at *; omega)), ?_⟩
    refine ⟨_, rfl, (by decide), (by first | omega | (simp only [wr, wl] at *; omega)), (by first | omega | (simp only [wr, wl] at *; omega)), ?_⟩
    have e : (wr (k + 1)) = k + 1 := by unfold wr; omega
    refine (congrArg (fun z => GoN G d kX12_copy NP NP 2 [some (vr 236), some (vr 237), some (vi z)] [] F _ Q) e).mpr ?_
    exact ih (k + 1) _ (by omega) (by omega) (fun I' h => hQ I' (fun j => (h j).trans (uI_ne (by decide) j)))
theorem m_copy (hF : FS F) (hQ : ∀ I', (∀ j, I' 235 j = I 235 j) → Q none F I') : CallN G d kX12_copy [vr 236, vr 237] NP F I Q := by
  refine Call_wp (lv := [some (vr 236), some (vr 237), none]) (by decide) ckX12_copy [2] rfl rfl ?_
  exact m_copy_loop hF 1340 0 _ (by decide) (by decide) hQ
theorem m_image (hF : FS F) (hX : FXm I) (hQ : ∀ F' I', Q (some (vi (1))) F' I') : CallN G (d + 12) kX12_image [vr 235] NP F I Q := by
  refine Call_wp (lv := [some (vr 235)]) (by decide) ckX12_image [] rfl rfl ?_
  refine ⟨_, rfl, (by decide), ?_⟩
  refine fun w0 hw0 => ?_; obtain rfl : w0 = some 236 := hw0.symm.trans (FS.g hF rfl)
  refine ⟨_, rfl, (by decide), ?_⟩
  refine fun w0 hw0 => ?_; obtain rfl : w0 = some 237 := hw0.symm.trans (FS.g hF rfl)
  refine m_copy hF (fun I1 f1 => ?_)
  refine ⟨_, rfl, (by decide), ?_⟩
  have r1 : (I1 235 2) = 0 := ((f1 2).trans (hX.i rfl rfl))
  refine ⟨_, rfl, (by decide), ?_⟩
  refine ⟨_, rfl, (by decide), ?_⟩
  have e : 1 = (wr ((I1 235 2) + 1)) := by (skip; (repeat' split) <;> first | rfl | omega | (simp only [wr, wl] at *; omega))
  rw [e] at hQ
  exact ⟨rfl, hQ _ _⟩
end IM
