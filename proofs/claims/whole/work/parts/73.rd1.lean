/-! THE END ROW -/
def eE (b : Nat → Nat) (z n : Nat) : Prop := n ≤ 12 ∧ 22 + n ≤ z ∧ nm b (z - 22 - n) 4 = 101010256 ∧ nm b (z - 22 - n + 20) 2 = n
def eOK (b : Nat → Nat) (p : Nat) : Prop := nm b (p + 16) 4 + nm b (p + 12) 4 ≤ p ∧ nm b (p + 8) 2 ≤ 12 ∧ nm b (p + 8) 2 = nm b (p + 10) 2
theorem sub2 {z t : Nat} (hz : z ≤ 2000) (ht : t ≤ 2000) : (nI z - 22 - nI t).toInt = (z : Int) - 22 - t := by
  rw [Int32.toInt_sub, show (22 : Int32) = nI 22 from rfl, nI_mn_toInt (by omega) (by omega), nI_toInt (by omega)]
  exact Int.bmod_eq_of_le (by omega) (by omega)
theorem sub2_n {z t : Nat} (hz : z ≤ 2000) (ht : 22 + t ≤ z) : nI z - 22 - nI t = nI (z - 22 - t) := nI_of_toInt (by rw [sub2 hz (by omega)]; omega) (by omega)
theorem sub2_0 {z t : Nat} (hz : z ≤ 2000) (ht : t ≤ 2000) (h : z < 22 + t) : nI z - 22 - nI t < 0 := by
  rw [ltc, sub2 hz ht, t3_0]
  omega
theorem ad_c (i c : Nat) : nI i + nI c = nI (i + c) := nI_add i c
theorem lN_lgE {v c : Nat} (h : v < 2 ^ 63) (hc : c < 2 ^ 63) : (lg_cmp (lN v) (lN c) = 0) = (v = c) := by
  rw [lge, lN_tI h, lN_tI hc]
  apply propext
  omega
theorem st_fE {M : Me} {b : Nat → Nat} {z t : Nat} {kx : Int32 → Me → Option (Int32 × Me)} {kb : Int32 × Me → Option (Int32 × Me)} (hb : Bb b) (hx : BX M b) (hz : M.1 2 1 = nI z) (hz2 : z ≤ 2000) (ht : t ≤ 12) : (eE b z t → g_X1_findEnd_2 kx kb 4 (nI t) M = some (1, sI (sI M 4 3 (nI (z - 22 - t))) 4 4 (nI t))) ∧ (¬ eE b z t → g_X1_findEnd_2 kx kb 4 (nI t) M = kb (nI (t + 1), M)) := by
  unfold g_X1_findEnd_2 j_X1_findEnd_67
  rw [if_neg (show ¬ (12 : Int32) < nI t from nI_nlt (a := 12) ht (by decide)), show rf 4 0 = 2 from rfl, hz, bndV_s, nI_1]
  simp only [bndV_s]
  rcases Nat.lt_or_ge z (22 + t) with h | h
  · rw [if_pos (sub2_0 hz2 (by omega) h)]
    exact ⟨fun q => by have := q.2.1; omega, fun _ => rfl⟩
  · have h4 := n4_lt hb (z - 22 - t)
    have h2 := n2_lt hb (z - 22 - t + 20)
    rw [sub2_n hz2 h, if_neg (nI_pos (by omega)), f_n4 hb hx (by omega), cal_s, show (20 : Int32) = nI 20 from rfl, nI_add, f_n2 hb hx (by omega), cal_s, bnd_s, bnd_s, chZ_1]
    have e1 : (lg_cmp (lN (nm b (z - 22 - t) 4)) (101010256 : Int64) = 0) = (nm b (z - 22 - t) 4 = 101010256) := lN_lgE (c := 101010256) (by omega) (by decide)
    refine ⟨fun q => ?_, fun q => ?_⟩
    · rw [if_pos (by rw [e1]; exact q.2.2.1), if_pos (by rw [q.2.2.2])]
    · by_cases q1 : nm b (z - 22 - t) 4 = 101010256
      · rw [if_pos (by rw [e1]; exact q1), if_neg (fun z => q ⟨ht, h, q1, (nI_eq (by omega) (by omega)).mp z⟩)]
      · rw [if_neg (by rw [e1]; exact q1)]
theorem f_fE1 {M : Me} {b : Nat → Nat} {z t : Nat} (hb : Bb b) (hx : BX M b) (hz : M.1 2 1 = nI z) (hz2 : z ≤ 2000) (h : eE b z t) (hm : ∀ s, s < t → ¬ eE b z s) : f_X1_findEnd M 4 = some (1, sI (sI M 4 3 (nI (z - 22 - t))) 4 4 (nI t)) := by
  unfold f_X1_findEnd l_X1_findEnd_2
  have ht := h.1
  refine lp_run _ (fun s => (nI s, M)) t _ (fun kb s hs => ?_) (fun kb => ?_) FU 0 (by omega) (by unfold FU; omega)
  · exact (st_fE hb hx hz hz2 (by omega)).2 (hm s hs)
  · exact (st_fE hb hx hz hz2 (by omega)).1 h
theorem f_fE0 {M : Me} {b : Nat → Nat} {z : Nat} (hb : Bb b) (hx : BX M b) (hz : M.1 2 1 = nI z) (hz2 : z ≤ 2000) (hm : ∀ s, ¬ eE b z s) : f_X1_findEnd M 4 = some (0, sI (sI M 4 7 1) 4 8 (nI z)) := by
  unfold f_X1_findEnd l_X1_findEnd_2
  refine lp_run _ (fun s => (nI s, M)) 13 _ (fun kb s hs => ?_) (fun kb => ?_) FU 0 (by omega) (by unfold FU; omega)
  · exact (st_fE hb hx hz hz2 (by omega)).2 (hm s)
  · show g_X1_findEnd_2 _ kb 4 (nI 13) M = _
    unfold g_X1_findEnd_2 f_X1_fail
    rw [if_pos (by decide)]
    show cal (bnd (sI M 4 7 1) (fun M1 => bnd (sI M1 4 8 (M.1 2 1)) _)) _ = _
    rw [hz, bnd_s, bnd_s, chZ_0, cal_s, chZ_0]
theorem f_tE {M : Me} {b : Nat → Nat} {p : Nat} (hb : Bb b) (hx : BX M b) (hp : M.1 4 3 = nI p) (hp2 : p ≤ 2000) : (eOK b p → f_X1_takeEnd M 4 = some (1, sI (sI (sI M 4 2 (nI (nm b (p + 8) 2))) 4 5 (nI (nm b (p + 16) 4))) 4 6 (nI (nm b (p + 16) 4 + nm b (p + 12) 4)))) ∧ (¬ eOK b p → f_X1_takeEnd M 4 = some (0, sI (sI M 4 7 2) 4 8 (nI p))) := by
  have h1 := n4_lt hb (p + 16)
  have h2 := n4_lt hb (p + 12)
  have h3 := n2_lt hb (p + 8)
  have h4 := n2_lt hb (p + 10)
  have eF : j_X1_takeEnd_83 4 M = some (0, sI (sI M 4 7 2) 4 8 (nI p)) := by
    unfold j_X1_takeEnd_83 f_X1_fail
    rw [hp, bnd_s, bnd_s, chZ_0, cal_s, chZ_0]
  unfold f_X1_takeEnd
  rw [show rf 4 0 = 2 from rfl, hp, show (8 : Int32) = nI 8 from rfl, nI_add, f_n2 hb hx (by omega), cal_s, hp, show (12 : Int32) = nI 12 from rfl, nI_add, f_n4 hb hx (by omega), cal_s, hp, show (16 : Int32) = nI 16 from rfl, nI_add, f_n4 hb hx (by omega), cal_s, hp, show (10 : Int32) = nI 10 from rfl, nI_add, f_n2 hb hx (by omega), cal_s, lN_add, lN_i, lN_i, nI_l (by omega), eF, bnd_s, bnd_s, bnd_s, chZ_1]
  simp only [lgg]
  rw [lN_tI (by omega), lN_tI (by omega)]
  refine ⟨fun q => ?_, fun q => ?_⟩
  · have q1 := q.1
    rw [if_neg (by omega), if_neg (nI_nlt (a := 12) q.2.1 (by decide)), if_pos (by rw [q.2.2])]
  · by_cases q1 : nm b (p + 16) 4 + nm b (p + 12) 4 ≤ p
    · rw [if_neg (by omega)]
      by_cases q2 : nm b (p + 8) 2 ≤ 12
      · rw [if_neg (nI_nlt (a := 12) q2 (by decide)), if_neg (fun z => q ⟨q1, q2, (nI_eq (by omega) (by omega)).mp z⟩)]
      · rw [if_pos (nI_lt (a := 12) (by omega) (by omega))]
    · rw [if_pos (by omega)]
/-! THE CENTRE's rows -/
def rN (b : Nat → Nat) (q : Nat) : Nat := nm b (q + 28) 2
def rE (b : Nat → Nat) (q : Nat) : Nat := nm b (q + 30) 2
def nxt (b : Nat → Nat) (q : Nat) : Nat := q + 46 + rN b q + rE b q
def rs (b : Nat → Nat) (cf : Nat) : Nat → Nat
  | 0 => cf
  | r + 1 => nxt b (rs b cf r)
def rOK (b : Nat → Nat) (ce q : Nat) : Prop := q + 46 ≤ ce ∧ nm b q 4 = 33639248 ∧ nm b (q + 32) 2 = 0 ∧ nxt b q ≤ ce
/-- is a folder's name there -/
def fo (b : Nat → Nat) (q : Nat) : Int32 := if 0 < rN b q ∧ b (q + 46 + rN b q - 1) = 47 then 1 else 0
def tF (M : Me) (a : Nat) (b : Nat → Nat) (q : Nat) : Me := sI (sL (sI (sI (sI (sL (sL (sL (sI (sI (sI (sI (sI M a 0 (nI q)) a 1 (nI (nm b (q + 8) 2))) a 2 (nI (nm b (q + 10) 2))) a 3 (nI (nm b (q + 12) 2))) a 4 (nI (nm b (q + 14) 2))) a 12 (lN (nm b (q + 16) 4))) a 13 (lN (nm b (q + 20) 4))) a 14 (lN (nm b (q + 24) 4))) a 6 (nI (rN b q))) a 7 (nI (rE b q))) a 5 (nI (nm b (q + 38) 4))) a 17 (lN (nm b (q + 42) 4))) a 11 (fo b q)
/-- a Row holds what the row at q tells -/
def RF (M : Me) (b : Nat → Nat) (a q : Nat) : Prop := M.1 a 0 = nI q ∧ M.1 a 1 = nI (nm b (q + 8) 2) ∧ M.1 a 2 = nI (nm b (q + 10) 2) ∧ M.1 a 3 = nI (nm b (q + 12) 2) ∧ M.1 a 4 = nI (nm b (q + 14) 2) ∧ M.1 a 5 = nI (nm b (q + 38) 4) ∧ M.1 a 6 = nI (rN b q) ∧ M.1 a 7 = nI (rE b q) ∧ M.1 a 11 = fo b q ∧ M.2 a 12 = lN (nm b (q + 16) 4) ∧ M.2 a 13 = lN (nm b (q + 20) 4) ∧ M.2 a 14 = lN (nm b (q + 24) 4) ∧ M.2 a 17 = lN (nm b (q + 42) 4)
theorem tF_rf {M : Me} {a : Nat} {b : Nat → Nat} {q : Nat} : RF (tF M a b q) b a q := by
  unfold tF RF
  refine ⟨?_, ?_, ?_, ?_, ?_, ?_, ?_, ?_, ?_, ?_, ?_, ?_, ?_⟩ <;> simp (disch := omega) only [sI_ne, sI_eq, sL_1, sI_2, sL_ne, sL_eq]
theorem tF_ne {M : Me} {a : Nat} {b : Nat → Nat} {q x y : Nat} (h : x ≠ a) : (tF M a b q).1 x y = M.1 x y := by
  unfold tF
  simp (disch := omega) only [sI_ne, sL_1]
theorem tF_ne2 {M : Me} {a : Nat} {b : Nat → Nat} {q x y : Nat} (h : x ≠ a) : (tF M a b q).2 x y = M.2 x y := by
  unfold tF
  simp (disch := omega) only [sI_2, sL_ne]
theorem RF.same {M M' : Me} {b : Nat → Nat} {a q : Nat} (h : RF M b a q) (h1 : ∀ y, y ≤ 7 ∨ y = 11 → M'.1 a y = M.1 a y) (h2 : ∀ y, y = 12 ∨ y = 13 ∨ y = 14 ∨ y = 17 → M'.2 a y = M.2 a y) : RF M' b a q := by
  unfold RF
  rw [h1 0 (by omega), h1 1 (by omega), h1 2 (by omega), h1 3 (by omega), h1 4 (by omega), h1 5 (by omega), h1 6 (by omega), h1 7 (by omega), h1 11 (by omega), h2 12 (by omega), h2 13 (by omega), h2 14 (by omega), h2 17 (by omega)]
  exact h
theorem BX.upL {M : Me} {b : Nat → Nat} {x y : Nat} {v : Int64} (h : BX M b) : BX (sL M x y v) b := h
theorem f_tF {M : Me} {b : Nat → Nat} {a q : Nat} (hb : Bb b) (hx : BX M b) (ha : a ≠ 3) (hq : q ≤ 2000) : f_X2_takeFixed M a 2 (nI q) = some ((), tF M a b q) := by
  have hn := n2_lt hb (q + 28)
  have hrn : nm b (q + 28) 2 = rN b q := rfl
  have hre : nm b (q + 30) 2 = rE b q := rfl
  rw [hrn] at hn
  unfold f_X2_takeFixed
  rw [bnd_s]
  obtain ⟨M0, hM0⟩ : ∃ M0, M0 = sI M a 0 (nI q) := ⟨_, rfl⟩
  rw [← hM0]
  have p0 : M0.1 a 0 = nI q := by rw [hM0, sI_eq]
  have x0 : BX M0 b := by rw [hM0]; exact hx.up (by omega)
  rw [p0, show (8 : Int32) = nI 8 from rfl, nI_add, f_n2 hb x0 (by omega), cal_s, bnd_s]
  obtain ⟨M1, hM1⟩ : ∃ M1, M1 = sI M0 a 1 (nI (nm b (q + 8) 2)) := ⟨_, rfl⟩
  rw [← hM1]
  have p1 : M1.1 a 0 = nI q := by rw [hM1, sI_ne (by omega)]; exact p0
  have x1 : BX M1 b := by rw [hM1]; exact x0.up (by omega)
  rw [p1, show (10 : Int32) = nI 10 from rfl, nI_add, f_n2 hb x1 (by omega), cal_s, bnd_s]
  obtain ⟨M2, hM2⟩ : ∃ M2, M2 = sI M1 a 2 (nI (nm b (q + 10) 2)) := ⟨_, rfl⟩
  rw [← hM2]
  have p2 : M2.1 a 0 = nI q := by rw [hM2, sI_ne (by omega)]; exact p1
  have x2 : BX M2 b := by rw [hM2]; exact x1.up (by omega)
  rw [p2, show (12 : Int32) = nI 12 from rfl, nI_add, f_n2 hb x2 (by omega), cal_s, bnd_s]
  obtain ⟨M3, hM3⟩ : ∃ M3, M3 = sI M2 a 3 (nI (nm b (q + 12) 2)) := ⟨_, rfl⟩
  rw [← hM3]
  have p3 : M3.1 a 0 = nI q := by rw [hM3, sI_ne (by omega)]; exact p2
  have x3 : BX M3 b := by rw [hM3]; exact x2.up (by omega)
  rw [p3, show (14 : Int32) = nI 14 from rfl, nI_add, f_n2 hb x3 (by omega), cal_s, bnd_s]
  obtain ⟨M4, hM4⟩ : ∃ M4, M4 = sI M3 a 4 (nI (nm b (q + 14) 2)) := ⟨_, rfl⟩
  rw [← hM4]
  have p4 : M4.1 a 0 = nI q := by rw [hM4, sI_ne (by omega)]; exact p3
  have x4 : BX M4 b := by rw [hM4]; exact x3.up (by omega)
  rw [p4, show (16 : Int32) = nI 16 from rfl, nI_add, f_n4 hb x4 (by omega), cal_s, bnd_s]
  obtain ⟨M5, hM5⟩ : ∃ M5, M5 = sL M4 a 12 (lN (nm b (q + 16) 4)) := ⟨_, rfl⟩
  rw [← hM5]
  have p5 : M5.1 a 0 = nI q := by rw [hM5]; exact p4
  have x5 : BX M5 b := by rw [hM5]; exact x4
  rw [p5, show (20 : Int32) = nI 20 from rfl, nI_add, f_n4 hb x5 (by omega), cal_s, bnd_s]
  obtain ⟨M6, hM6⟩ : ∃ M6, M6 = sL M5 a 13 (lN (nm b (q + 20) 4)) := ⟨_, rfl⟩
  rw [← hM6]
  have p6 : M6.1 a 0 = nI q := by rw [hM6]; exact p5
  have x6 : BX M6 b := by rw [hM6]; exact x5
  rw [p6, show (24 : Int32) = nI 24 from rfl, nI_add, f_n4 hb x6 (by omega), cal_s, bnd_s]
  obtain ⟨M7, hM7⟩ : ∃ M7, M7 = sL M6 a 14 (lN (nm b (q + 24) 4)) := ⟨_, rfl⟩
  rw [← hM7]
  have p7 : M7.1 a 0 = nI q := by rw [hM7]; exact p6
  have x7 : BX M7 b := by rw [hM7]; exact x6
  rw [p7, show (28 : Int32) = nI 28 from rfl, nI_add, f_n2 hb x7 (by omega), hrn, cal_s, bnd_s]
  obtain ⟨M8, hM8⟩ : ∃ M8, M8 = sI M7 a 6 (nI (rN b q)) := ⟨_, rfl⟩
  rw [← hM8]
  have p8 : M8.1 a 0 = nI q := by rw [hM8, sI_ne (by omega)]; exact p7
  have x8 : BX M8 b := by rw [hM8]; exact x7.up (by omega)
  have r8 : M8.1 a 6 = nI (rN b q) := by rw [hM8, sI_eq]
  rw [p8, show (30 : Int32) = nI 30 from rfl, nI_add, f_n2 hb x8 (by omega), hre, cal_s, bnd_s]
  obtain ⟨M9, hM9⟩ : ∃ M9, M9 = sI M8 a 7 (nI (rE b q)) := ⟨_, rfl⟩
  rw [← hM9]
  have p9 : M9.1 a 0 = nI q := by rw [hM9, sI_ne (by omega)]; exact p8
  have x9 : BX M9 b := by rw [hM9]; exact x8.up (by omega)
  have r9 : M9.1 a 6 = nI (rN b q) := by rw [hM9, sI_ne (by omega)]; exact r8
  rw [p9, show (38 : Int32) = nI 38 from rfl, nI_add, f_n4 hb x9 (by omega), cal_s, lN_i, bnd_s]
  obtain ⟨M10, hM10⟩ : ∃ M10, M10 = sI M9 a 5 (nI (nm b (q + 38) 4)) := ⟨_, rfl⟩
  rw [← hM10]
  have p10 : M10.1 a 0 = nI q := by rw [hM10, sI_ne (by omega)]; exact p9
  have x10 : BX M10 b := by rw [hM10]; exact x9.up (by omega)
  have r10 : M10.1 a 6 = nI (rN b q) := by rw [hM10, sI_ne (by omega)]; exact r9
  rw [p10, show (42 : Int32) = nI 42 from rfl, nI_add, f_n4 hb x10 (by omega), cal_s, bnd_s]
  obtain ⟨M11, hM11⟩ : ∃ M11, M11 = sL M10 a 17 (lN (nm b (q + 42) 4)) := ⟨_, rfl⟩
  rw [← hM11]
  have p11 : M11.1 a 0 = nI q := by rw [hM11]; exact p10
  have x11 : BX M11 b := by rw [hM11]; exact x10
  have r11 : M11.1 a 6 = nI (rN b q) := by rw [hM11]; exact r10
  have hT : tF M a b q = sI M11 a 11 (fo b q) := by
    rw [hM11, hM10, hM9, hM8, hM7, hM6, hM5, hM4, hM3, hM2, hM1, hM0]
    rfl
  rw [hT, r11]
  unfold f_X2_namePlace
  by_cases q0 : rN b q = 0
  · rw [if_pos (by rw [q0]; decide), chZ_0, bnd_s]
    unfold fo
    rw [if_neg (by omega)]
  · rw [if_neg (show ¬ nI (rN b q) ≤ (0 : Int32) from nI_ge (a := 0) (by omega) (by omega)), cal_s, p11, r11, show (46 : Int32) = nI 46 from rfl, nI_add, nI_add, su_1 (by omega), f_n1 hb x11 (by omega), cal_s, chZ_0, chZ_1, bnd_s, bnd_s]
    have hlt := hb.1 (q + 46 + rN b q - 1)
    unfold fo
    by_cases q1 : b (q + 46 + rN b q - 1) = 47
    · rw [if_pos (by rw [q1]; rfl), if_pos ⟨by omega, q1⟩]
    · rw [if_neg (show ¬ nI (b (q + 46 + rN b q - 1)) = (47 : Int32) from fun z => q1 ((nI_eq (b := 47) (by omega) (by decide)).mp z)), if_neg (fun z => q1 z.2)]
