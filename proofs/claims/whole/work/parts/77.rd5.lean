/-! LOCAL, DATA, shared bytes, paths -/
def C6 (b : Nat → Nat) (cf q : Nat) : Prop := lcl b q + 30 ≤ cf ∧ nm b (lcl b q) 4 = 67324752 ∧ lcl b q + 30 + nm b (lcl b q + 26) 2 + nm b (lcl b q + 28) 2 ≤ cf
def C7 (b : Nat → Nat) (q : Nat) : Prop := (∀ k, k < 10 → b (lcl b q + 4 + k) = b (q + 6 + k)) ∧ (∀ k, k < 4 → b (lcl b q + 26 + k) = b (q + 28 + k)) ∧ (∀ k, k < rN b q + rE b q → b (lcl b q + 30 + k) = b (q + 46 + k)) ∧ ∀ k, k < 12 → b (lcl b q + 14 + k) = if flg b q = 8 then 0 else b (q + 16 + k)
def dn (b : Nat → Nat) (q : Nat) : Nat := (psz b q).toInt.toNat
def dp (b : Nat → Nat) (q : Nat) : Nat := lcl b q + 30 + rN b q + rE b q
def lend (b : Nat → Nat) (q : Nat) : Nat := dp b q + dn b q + (if flg b q = 8 then 16 else 0)
def C8 (b : Nat → Nat) (cf q : Nat) : Prop := lend b q ≤ cf ∧ (flg b q = 8 → nm b (dp b q + dn b q) 4 = 134695760 ∧ ∀ k, k < 12 → b (dp b q + dn b q + 4 + k) = b (q + 16 + k))
def C9 (b : Nat → Nat) (cf i : Nat) : Prop := ∀ j, j < i → ¬ (lcl b (rs b cf i) < lend b (rs b cf j) ∧ lcl b (rs b cf j) < lend b (rs b cf i))
theorem psz_dn {b : Nat → Nat} {q : Nat} (h : C5 b q) : psz b q = lN (dn b q) ∧ dn b q ≤ 40 := by
  obtain ⟨_, _, _, h1, _⟩ := h
  have h2 : dn b q ≤ 40 := by unfold dn; omega
  refine ⟨Int64.toInt_inj.mp ?_, h2⟩
  rw [lN_tI (by omega)]
  unfold dn
  omega
theorem f_form {M : Me} {b : Nat → Nat} {a q : Nat} (hb : Bb b) (hr : RF M b a q) (hg : M.1 a 10 = wq b q) (h4 : C4 b q) (h5 : C5 b q) : (flg b q = 8 → f_X2_form M a = some (1, M)) ∧ (¬ flg b q = 8 → ∃ v, ¬ v = (1 : Int32) ∧ f_X2_form M a = some (v, M)) := by
  obtain ⟨f0, f1, f2, f3, f4, f5, f6, f7, f11, l12, l13, l14, l17⟩ := hr
  have hw := wq_01 b q
  have h6 := h5.2.2.2.2.2
  have hfl := n2_lt hb (q + 8)
  have ef : nm b (q + 8) 2 = flg b q := rfl
  rw [ef] at hfl
  unfold f_X2_form
  rw [hg, f1, ef]
  refine ⟨fun h => ?_, fun h => ?_⟩
  · rw [if_pos (show wq b q = 0 by rw [eqc, t3_0]; omega), if_pos (show nI (flg b q) = (8 : Int32) by rw [h]; rfl)]
  · by_cases q1 : wq b q = 0
    · rw [if_pos q1, if_neg (show ¬ nI (flg b q) = (8 : Int32) from fun z => h ((nI_eq (b := 8) (by omega) (by decide)).mp z))]
      exact ⟨0, by decide, rfl⟩
    · rw [if_neg q1]
      exact ⟨2, by decide, rfl⟩
theorem f_hL {M : Me} {b : Nat → Nat} {a q cf : Nat} (hb : Bb b) (hx : BX M b) (hr : RF M b a q) (hcf : M.1 4 5 = nI cf) (hc : cf ≤ 2000) : (C6 b cf q → f_X1_hasLocal M 4 a = some (1, M)) ∧ (¬ C6 b cf q → f_X1_hasLocal M 4 a = some (0, M)) := by
  obtain ⟨f0, f1, f2, f3, f4, f5, f6, f7, f11, l12, l13, l14, l17⟩ := hr
  have hl := n4_lt hb (q + 42)
  have el : nm b (q + 42) 4 = lcl b q := rfl
  rw [el] at hl l17
  unfold f_X1_hasLocal
  rw [l17, hcf, nI_l (by omega), show (30 : Int64) = lN 30 from rfl, lN_add, lN_i, show rf 4 0 = 2 from rfl]
  simp only [lgle, chZ_0, chZ_1]
  rw [lN_tI (by omega), lN_tI (by omega)]
  by_cases h1 : lcl b q + 30 ≤ cf
  · have h2 := n2_lt hb (lcl b q + 26)
    have h3 := n2_lt hb (lcl b q + 28)
    have h4 := n4_lt hb (lcl b q)
    have e1 : (lg_cmp (lN (nm b (lcl b q) 4)) (67324752 : Int64) = 0) = (nm b (lcl b q) 4 = 67324752) := lN_lgE (c := 67324752) (by omega) (by decide)
    rw [if_pos (by omega), bndV_s, show (26 : Int32) = nI 26 from rfl, nI_add, f_n2 hb hx (by omega), cal_s, show (28 : Int32) = nI 28 from rfl, nI_add, f_n2 hb hx (by omega), cal_s, show (30 : Int32) = nI 30 from rfl, nI_add, nI_add, bndV_s, f_n4 hb hx (by omega), cal_s, nI_add, hcf]
    by_cases h5 : nm b (lcl b q) 4 = 67324752
    · rw [if_pos (by rw [e1]; exact h5)]
      by_cases h6 : lcl b q + 30 + nm b (lcl b q + 26) 2 + nm b (lcl b q + 28) 2 ≤ cf
      · rw [if_neg (nI_nlt (by omega) (by omega))]
        exact ⟨fun _ => rfl, fun z => absurd ⟨h1, h5, h6⟩ z⟩
      · rw [if_pos (nI_lt (by omega) (by omega))]
        exact ⟨fun z => absurd z.2.2 h6, fun _ => rfl⟩
    · rw [if_neg (by rw [e1]; exact h5)]
      exact ⟨fun z => absurd z.2.1 h5, fun _ => rfl⟩
  · rw [if_neg (by omega)]
    exact ⟨fun z => absurd z.1 h1, fun _ => rfl⟩
theorem f_lT {M : Me} {b : Nat → Nat} {a q cf : Nat} (hb : Bb b) (hx : BX M b) (hr : RF M b a q) (hg : M.1 a 10 = wq b q) (hq : nxt b q ≤ 2000) (hc : cf ≤ 2000) (h4 : C4 b q) (h5 : C5 b q) (h6 : C6 b cf q) : (C7 b q → f_X1_isLocalAsTold M 4 a = some (1, M)) ∧ (¬ C7 b q → f_X1_isLocalAsTold M 4 a = some (0, M)) := by
  obtain ⟨hf8, hfn⟩ := f_form hb hr hg h4 h5
  obtain ⟨f0, f1, f2, f3, f4, f5, f6, f7, f11, l12, l13, l14, l17⟩ := hr
  have el : nm b (q + 42) 4 = lcl b q := rfl
  rw [el] at l17
  have h6a := h6.1
  have hnx : nxt b q = q + 46 + rN b q + rE b q := rfl
  unfold f_X1_isLocalAsTold f_X2_namePlace
  rw [l17, lN_i, bndV_s, show rf 4 0 = 2 from rfl, f0, show (4 : Int32) = nI 4 from rfl, show (6 : Int32) = nI 6 from rfl, show (10 : Int32) = nI 10 from rfl, nI_add, nI_add]
  rcases (Classical.em (∀ k, k < 10 → b (lcl b q + 4 + k) = b (q + 6 + k))).symm with g1 | g1
  · rw [f_same0 hb hx (by omega) (by omega) (by omega) g1, cal_s, if_pos rfl, chZ_0]
    exact ⟨fun z => absurd z.1 g1, fun _ => rfl⟩
  rw [f_same1 hb hx (by omega) (by omega) (by omega) g1, cal_s, if_neg (by decide), f0, show (26 : Int32) = nI 26 from rfl, show (28 : Int32) = nI 28 from rfl, nI_add, nI_add]
  rcases (Classical.em (∀ k, k < 4 → b (lcl b q + 26 + k) = b (q + 28 + k))).symm with g2 | g2
  · rw [f_same0 hb hx (by omega) (by omega) (by omega) g2, cal_s, if_pos rfl, chZ_0]
    exact ⟨fun z => absurd z.2.1 g2, fun _ => rfl⟩
  rw [f_same1 hb hx (by omega) (by omega) (by omega) g2, cal_s, if_neg (by decide), cal_s, f0, f6, f7, show (30 : Int32) = nI 30 from rfl, show (46 : Int32) = nI 46 from rfl, nI_add, nI_add, nI_add]
  rcases (Classical.em (∀ k, k < rN b q + rE b q → b (lcl b q + 30 + k) = b (q + 46 + k))).symm with g3 | g3
  · rw [f_same0 hb hx (by omega) (by omega) (by omega) g3, cal_s, if_pos rfl, chZ_0]
    exact ⟨fun z => absurd z.2.2.1 g3, fun _ => rfl⟩
  rw [f_same1 hb hx (by omega) (by omega) (by omega) g3, cal_s, if_neg (by decide)]
  by_cases g4 : flg b q = 8
  · rw [hf8 g4, cal_s, if_pos rfl, show (14 : Int32) = nI 14 from rfl, nI_add, f_n4 hb hx (by omega), cal_s, show (18 : Int32) = nI 18 from rfl, nI_add, f_n8 hb hx (by omega), cal_s, chZ_0, chZ_1]
    have h14 := n4_lt hb (lcl b q + 14)
    have h18 := n8_lt hb (lcl b q + 18)
    have e4 : (lg_cmp (lN (nm b (lcl b q + 14) 4)) (0 : Int64) = 0) = (nm b (lcl b q + 14) 4 = 0) := lN_lgE (c := 0) (by omega) (by decide)
    have e8 : (lg_cmp (lN (nm b (lcl b q + 18) 8)) (0 : Int64) = 0) = (nm b (lcl b q + 18) 8 = 0) := by
      apply propext
      rw [lg_cmp_eq]
      refine ⟨fun z => ?_, fun z => by rw [z]; rfl⟩
      have := congrArg (fun x : Int64 => x.toBitVec.toNat) z
      have h2 : (lN (nm b (lcl b q + 18) 8)).toBitVec.toNat = 0 := this
      rw [wb_tn h18] at h2
      exact h2
    have e12 : (∀ k, k < 12 → b (lcl b q + 14 + k) = if flg b q = 8 then 0 else b (q + 16 + k)) ↔ (nm b (lcl b q + 14) 4 = 0 ∧ nm b (lcl b q + 18) 8 = 0) := by
      rw [nm_z, nm_z]
      refine ⟨fun z => ⟨fun k hk => ?_, fun k hk => ?_⟩, fun z k hk => ?_⟩
      · have := z k (by omega)
        rw [if_pos g4] at this
        exact this
      · have := z (4 + k) (by omega)
        rw [if_pos g4, show lcl b q + 14 + (4 + k) = lcl b q + 18 + k by omega] at this
        exact this
      · rw [if_pos g4]
        rcases Nat.lt_or_ge k 4 with y | y
        · exact z.1 k y
        · have := z.2 (k - 4) (by omega)
          rw [show lcl b q + 18 + (k - 4) = lcl b q + 14 + k by omega] at this
          exact this
    by_cases g5 : nm b (lcl b q + 14) 4 = 0
    · rw [if_pos (by rw [e4]; exact g5)]
      by_cases g6 : nm b (lcl b q + 18) 8 = 0
      · rw [if_pos (by rw [e8]; exact g6)]
        exact ⟨fun _ => rfl, fun z => absurd ⟨g1, g2, g3, e12.mpr ⟨g5, g6⟩⟩ z⟩
      · rw [if_neg (by rw [e8]; exact g6)]
        exact ⟨fun z => absurd (e12.mp z.2.2.2).2 g6, fun _ => rfl⟩
    · rw [if_neg (by rw [e4]; exact g5)]
      exact ⟨fun z => absurd (e12.mp z.2.2.2).1 g5, fun _ => rfl⟩
  · obtain ⟨v, hv1, hv2⟩ := hfn g4
    rw [hv2, cal_s, if_neg hv1, f0, show (14 : Int32) = nI 14 from rfl, show (16 : Int32) = nI 16 from rfl, show (12 : Int32) = nI 12 from rfl, nI_add, nI_add]
    by_cases g5 : ∀ k, k < 12 → b (lcl b q + 14 + k) = b (q + 16 + k)
    · rw [f_same1 hb hx (by omega) (by omega) (by omega) g5, cal_s, chZ_1]
      exact ⟨fun _ => rfl, fun z => absurd ⟨g1, g2, g3, fun k hk => by rw [if_neg g4]; exact g5 k hk⟩ z⟩
    · rw [f_same0 hb hx (by omega) (by omega) (by omega) g5, cal_s, chZ_0]
      exact ⟨fun z => absurd (fun k hk => by have := z.2.2.2 k hk; rw [if_neg g4] at this; exact this) g5, fun _ => rfl⟩
