theorem f_dP {M : Me} {b : Nat → Nat} {a q : Nat} (hr : RF M b a q) : f_X2_dataPlace M a = some (nI (dp b q), M) := by
  obtain ⟨f0, f1, f2, f3, f4, f5, f6, f7, f11, l12, l13, l14, l17⟩ := hr
  unfold f_X2_dataPlace
  rw [l17, lN_i, f6, f7, show (30 : Int32) = nI 30 from rfl, nI_add, nI_add, nI_add]
  rfl
theorem f_dT {M : Me} {b : Nat → Nat} {a q cf : Nat} (hb : Bb b) (hx : BX M b) (ha : 6 ≤ a) (hr : RF M b a q) (hg : M.1 a 10 = wq b q) (h15 : M.2 a 15 = psz b q) (hcf : M.1 4 5 = nI cf) (hq : nxt b q ≤ 2000) (hc : cf ≤ 2000) (h4 : C4 b q) (h5 : C5 b q) (h6 : C6 b cf q) : (C8 b cf q → f_X1_hasDataAsTold M 4 a = some (1, sI M a 18 (nI (lend b q)))) ∧ (¬ C8 b cf q → f_X1_hasDataAsTold M 4 a = some (0, sI M a 18 (nI (lend b q)))) := by
  obtain ⟨hf8, hfn⟩ := f_form hb hr hg h4 h5
  have hdp := f_dP hr
  have f0 := hr.1
  obtain ⟨e15, hdn⟩ := psz_dn h5
  have h6a := h6.1
  have hnx : nxt b q = q + 46 + rN b q + rE b q := rfl
  have hdpv : dp b q = lcl b q + 30 + rN b q + rE b q := rfl
  have hle : lend b q = dp b q + dn b q + (if flg b q = 8 then 16 else 0) := rfl
  unfold f_X1_hasDataAsTold
  rw [hdp, cal_s, h15, e15, lN_i, nI_add, bndV_s]
  obtain ⟨A, hA⟩ : ∃ A, A = sI M a 18 (nI (lend b q)) := ⟨_, rfl⟩
  have xA : BX A b := by rw [hA]; exact hx.up (by omega)
  have a18 : A.1 a 18 = nI (lend b q) := by rw [hA, sI_eq]
  have a5 : A.1 4 5 = nI cf := by rw [hA, sI_ne (by omega)]; exact hcf
  have a0 : A.1 a 0 = nI q := by rw [hA, sI_ne (by omega)]; exact f0
  by_cases g : flg b q = 8
  · have hle2 : lend b q = dp b q + dn b q + 16 := by rw [hle, if_pos g]
    rw [hf8 g, cal_s, if_pos (show (1 : Int32) = 1 from rfl)]
    unfold j_X1_hasDataAsTold_24 j_X1_hasDataAsTold_38
    rw [if_neg (show ¬ (1 : Int32) = 0 by decide), show (16 : Int32) = nI 16 from rfl, nI_add, ← hle2, bnd_s, ← hA, a18, a5, chZ_0, if_neg (show ¬ (1 : Int32) = 0 by decide)]
    have hn4 := n4_lt hb (dp b q + dn b q)
    by_cases g1 : lend b q ≤ cf
    · rw [if_pos (nI_le g1 (by omega)), show rf 4 0 = 2 from rfl, f_n4 hb xA (by omega), cal_s]
      have e1 : (lg_cmp (lN (nm b (dp b q + dn b q) 4)) (134695760 : Int64) = 0) = (nm b (dp b q + dn b q) 4 = 134695760) := lN_lgE (c := 134695760) (by omega) (by decide)
      by_cases g2 : nm b (dp b q + dn b q) 4 = 134695760
      · rw [if_pos (by rw [e1]; exact g2), a0, show (4 : Int32) = nI 4 from rfl, show (12 : Int32) = nI 12 from rfl, nI_add, nI_add]
        by_cases g3 : ∀ k, k < 12 → b (dp b q + dn b q + 4 + k) = b (q + 16 + k)
        · rw [f_same1 hb xA (by omega) (by omega) (by omega) g3, cal_s, if_neg (by decide), chZ_1]
          exact ⟨fun _ => rfl, fun z => absurd ⟨g1, fun _ => ⟨g2, g3⟩⟩ z⟩
        · rw [f_same0 hb xA (by omega) (by omega) (by omega) g3, cal_s, if_pos rfl, chZ_0]
          exact ⟨fun z => absurd (z.2 g).2 g3, fun _ => rfl⟩
      · rw [if_neg (by rw [e1]; exact g2), chZ_0]
        exact ⟨fun z => absurd (z.2 g).1 g2, fun _ => rfl⟩
    · rw [if_neg (nI_ge (by omega) (by omega))]
      exact ⟨fun z => absurd z.1 g1, fun _ => rfl⟩
  · have hle2 : lend b q = dp b q + dn b q := by rw [hle, if_neg g, Nat.add_zero]
    obtain ⟨v, hv1, hv2⟩ := hfn g
    rw [hv2, cal_s, if_neg hv1]
    unfold j_X1_hasDataAsTold_24 j_X1_hasDataAsTold_38
    rw [if_pos (show (0 : Int32) = 0 from rfl), show nI (dp b q + dn b q) = nI (lend b q) by rw [hle2], bnd_s, ← hA, a18, a5, chZ_0, chZ_1, if_pos (show (0 : Int32) = 0 from rfl)]
    by_cases g1 : lend b q ≤ cf
    · rw [if_pos (nI_le g1 (by omega))]
      exact ⟨fun _ => rfl, fun z => absurd ⟨g1, fun y => absurd y g⟩ z⟩
    · rw [if_neg (nI_ge (by omega) (by omega))]
      exact ⟨fun z => absurd z.1 g1, fun _ => rfl⟩
theorem f_sh {M : Me} {b : Nat → Nat} {cf i : Nat} (hi : i < 12) (h17 : ∀ j, j ≤ i → M.2 (6 + j) 17 = lN (lcl b (rs b cf j))) (h18 : ∀ j, j ≤ i → M.1 (6 + j) 18 = nI (lend b (rs b cf j))) (hl : ∀ j, j ≤ i → lcl b (rs b cf j) < 2 ^ 31) (he : ∀ j, j ≤ i → lend b (rs b cf j) < 2 ^ 31) : (C9 b cf i → f_X1_sharesBytes M 4 (nI i) = some (0, M)) ∧ (¬ C9 b cf i → f_X1_sharesBytes M 4 (nI i) = some (1, M)) := by
  have st : ∀ kx kb j, j < i → g_X1_sharesBytes_9 kx kb 4 (nI i) (6 + i) (nI j) M = if (lcl b (rs b cf i) < lend b (rs b cf j) ∧ lcl b (rs b cf j) < lend b (rs b cf i)) then some (1, M) else kb (nI (j + 1), M) := by
    intro kx kb j hj
    unfold g_X1_sharesBytes_9 j_X1_sharesBytes_52
    have a1 := hl i (by omega)
    have a2 := hl j (by omega)
    have a3 := he i (by omega)
    have a4 := he j (by omega)
    rw [if_neg (nI_ge hj (by omega)), show rf 4 1 = 5 from rfl, chk_n _ (show j < ln 5 by rw [ln_5]; omega) (by decide), chk_n _ (show j < ln 5 by rw [ln_5]; omega) (by decide), nI_clamp (by omega), rf_R, h17 i (by omega), h17 j (by omega), h18 i (by omega), h18 j (by omega), nI_l (by omega), nI_l (by omega), bndV_s, nI_1, chZ_1]
    simp only [lgge]
    rw [lN_tI (by omega), lN_tI (by omega), lN_tI (by omega), lN_tI (by omega)]
    by_cases q1 : lcl b (rs b cf i) < lend b (rs b cf j)
    · rw [if_neg (by omega)]
      by_cases q2 : lcl b (rs b cf j) < lend b (rs b cf i)
      · rw [if_neg (by omega), if_pos ⟨q1, q2⟩]
      · rw [if_pos (by omega), if_neg (fun z => q2 z.2)]
    · rw [if_pos (by omega), if_neg (fun z => q1 z.1)]
  unfold f_X1_sharesBytes l_X1_sharesBytes_9
  rw [show rf 4 1 = 5 from rfl, chk_n _ (show i < ln 5 by rw [ln_5]; omega) (by decide), bndV_s, nI_clamp (by omega), rf_R]
  refine ⟨fun h => ?_, fun h => ?_⟩
  · refine lp_all _ M i (fun j => lcl b (rs b cf i) < lend b (rs b cf j) ∧ lcl b (rs b cf j) < lend b (rs b cf i)) _ (fun kb j hj hp => ?_) (fun kb => ?_) (fun ⟨j, hj, hp⟩ => h j hj hp) FU 0 (by omega) (by unfold FU; omega)
    · exact (st _ kb j hj).trans (if_neg hp)
    · show g_X1_sharesBytes_9 _ kb 4 (nI i) (6 + i) (nI i) M = _
      unfold g_X1_sharesBytes_9
      rw [if_pos (nI_le (Nat.le_refl i) (by omega))]
      exact chZ_0 _
  · refine lp_hit _ M i (fun j => lcl b (rs b cf i) < lend b (rs b cf j) ∧ lcl b (rs b cf j) < lend b (rs b cf i)) _ (fun kb j hj hp => ?_) (fun kb j hj hp => ?_) FU 0 (by unfold FU; omega) ?_
    · exact (st _ kb j hj).trans (if_pos hp)
    · exact (st _ kb j hj).trans (if_neg hp)
    · apply Classical.byContradiction
      intro hno
      exact h (fun j hj hp => hno ⟨j, by omega, hj, hp⟩)
/-! paths -/
def stp (b : Nat → Nat) (s : Nat) : Nat → Nat
  | 0 => 0
  | k + 1 => if b (s + k) = 47 then k + 1 else stp b s k
def sS (b : Nat → Nat) (s a m : Nat) : Prop := m ≠ 0 ∧ ¬ (m = 2 ∧ b (s + a) = 46 ∧ b (s + a + 1) = 46)
def gl (b : Nat → Nat) (s k : Nat) : Prop := b (s + k) ≠ 92 ∧ (b (s + k) = 47 → sS b s (stp b s k) (k - stp b s k))
def safe (b : Nat → Nat) (s n : Nat) : Prop := (∀ k, k < n → gl b s k) ∧ (stp b s n = n ∨ sS b s (stp b s n) (n - stp b s n))
theorem stp_le (b : Nat → Nat) (s : Nat) : ∀ k, stp b s k ≤ k
  | 0 => Nat.le_refl _
  | k + 1 => by
    have := stp_le b s k
    show (if b (s + k) = 47 then k + 1 else stp b s k) ≤ k + 1
    by_cases q : b (s + k) = 47
    · rw [if_pos q]; exact Nat.le_refl _
    · rw [if_neg q]; omega
theorem nI_bc {b : Nat → Nat} (hb : Bb b) (i c : Nat) (hc : c < 256) : nI (b i) = nI c ↔ b i = c := nI_eq (by have := hb.1 i; omega) (by omega)
theorem f_stp {M : Me} {b : Nat → Nat} {s a m : Nat} (hb : Bb b) (hx : BX M b) (hs : s + a < 2 ^ 30) (hm : m < 2 ^ 30) : (sS b s a m → f_X2_isSafeStep M 2 (nI (s + a)) (nI m) = some (1, M)) ∧ (¬ sS b s a m → f_X2_isSafeStep M 2 (nI (s + a)) (nI m) = some (0, M)) := by
  unfold f_X2_isSafeStep j_X2_isSafeStep_31 j_X2_isSafeStep_32
  rw [f_n1 hb hx (by omega), cal_s, nI_1, f_n1 hb hx (by omega), cal_s, chZ_0, chZ_1, if_neg (show ¬ (1 : Int32) = 0 by decide), if_pos (show (0 : Int32) = 0 from rfl)]
  have e2 : (nI m = (2 : Int32)) ↔ m = 2 := nI_eq (b := 2) (by omega) (by decide)
  have e0 : (nI m = (0 : Int32)) ↔ m = 0 := nI_eq (b := 0) (by omega) (by decide)
  have e3 : (nI (b (s + a)) = (46 : Int32)) ↔ b (s + a) = 46 := nI_bc hb _ 46 (by decide)
  have e4 : (nI (b (s + a + 1)) = (46 : Int32)) ↔ b (s + a + 1) = 46 := nI_bc hb _ 46 (by decide)
  simp only [e2, e0, e3, e4]
  unfold sS
  refine ⟨fun h => ?_, fun h => ?_⟩
  · repeat' split
    all_goals first | rfl | (exfalso; omega)
  · repeat' split
    all_goals first | rfl | (exfalso; omega)
theorem f_sf {M : Me} {b : Nat → Nat} {a q : Nat} (hb : Bb b) (hx : BX M b) (hr : RF M b a q) (hq : q ≤ 2000) (hn : rN b q ≤ 16) : (safe b (q + 46) (rN b q) → f_X2_isSafe M a 2 = some (1, M)) ∧ (¬ safe b (q + 46) (rN b q) → f_X2_isSafe M a 2 = some (0, M)) := by
  obtain ⟨f0, f1, f2, f3, f4, f5, f6, f7, f11, l12, l13, l14, l17⟩ := hr
  obtain ⟨n, en⟩ : ∃ n, n = rN b q := ⟨_, rfl⟩
  obtain ⟨s, es⟩ : ∃ s, s = q + 46 := ⟨_, rfl⟩
  rw [← en] at hn f6 ⊢
  rw [← es]
  have st : ∀ kx kb k, k < n → (gl b s k → g_X2_isSafe_10 kx kb a 2 (nI s) (nI (stp b s k)) (nI k) M = kb (nI (stp b s (k + 1)), nI (k + 1), M)) ∧ (¬ gl b s k → g_X2_isSafe_10 kx kb a 2 (nI s) (nI (stp b s k)) (nI k) M = some (0, M)) := by
    intro kx kb k hk
    have hsl := stp_le b s k
    obtain ⟨p1, p2⟩ := f_stp (M := M) (s := s) (a := stp b s k) (m := k - stp b s k) hb hx (by omega) (by omega)
    unfold g_X2_isSafe_10 j_X2_isSafe_59 j_X2_isSafe_71
    rw [f6, if_neg (nI_ge hk (by omega)), nI_add, f_n1 hb hx (by omega), cal_s, nI_add, pk_sub hsl, nI_1, bndV_s, chZ_0]
    have e92 : (nI (b (s + k)) = (92 : Int32)) ↔ b (s + k) = 92 := nI_bc hb _ 92 (by decide)
    have e47 : (nI (b (s + k)) = (47 : Int32)) ↔ b (s + k) = 47 := nI_bc hb _ 47 (by decide)
    have e1 : stp b s (k + 1) = if b (s + k) = 47 then k + 1 else stp b s k := rfl
    by_cases q92 : b (s + k) = 92
    · rw [if_pos (e92.mpr q92)]
      exact ⟨fun z => absurd q92 z.1, fun _ => rfl⟩
    · rw [if_neg (fun z => q92 (e92.mp z))]
      by_cases q47 : b (s + k) = 47
      · rw [if_pos (e47.mpr q47), e1, if_pos q47]
        by_cases g : sS b s (stp b s k) (k - stp b s k)
        · rw [p1 g, cal_s, if_neg (by decide), if_pos (e47.mpr q47), bndV_s, bndV_s]
          exact ⟨fun _ => rfl, fun z => absurd ⟨q92, fun _ => g⟩ z⟩
        · rw [p2 g, cal_s, if_pos rfl, chZ_0]
          exact ⟨fun z => absurd (z.2 q47) g, fun _ => rfl⟩
      · rw [if_neg (fun z => q47 (e47.mp z)), if_neg (fun z => q47 (e47.mp z)), e1, if_neg q47, bndV_s]
        exact ⟨fun _ => rfl, fun z => absurd ⟨q92, fun y => absurd y q47⟩ z⟩
  unfold f_X2_isSafe f_X2_namePlace
  rw [f0, show (46 : Int32) = nI 46 from rfl, nI_add, ← es, cal_s]
  unfold l_X2_isSafe_10
  refine ⟨fun h => ?_, fun h => ?_⟩
  · refine lp_run _ (fun k => (nI (stp b s k), nI k, M)) n _ (fun kb k hk => ?_) (fun kb => ?_) FU 0 (by omega) (by unfold FU; omega)
    · exact (st _ kb k hk).1 (h.1 k hk)
    · show g_X2_isSafe_10 _ kb a 2 (nI s) (nI (stp b s n)) (nI n) M = _
      have hsl := stp_le b s n
      unfold g_X2_isSafe_10
      rw [f6, if_pos (nI_le (Nat.le_refl n) (by omega))]
      dsimp only
      rw [f6]
      by_cases g : stp b s n = n
      · rw [if_pos (by rw [g]), chZ_1]
      · rw [if_neg (fun z => g ((nI_eq (by omega) (by omega)).mp z)), nI_add, pk_sub hsl, (f_stp hb hx (by omega) (by omega)).1 (h.2.resolve_left g), cal_s, if_neg (by decide), chZ_1]
  · by_cases hall : ∀ k, k < n → gl b s k
    · refine lp_run _ (fun k => (nI (stp b s k), nI k, M)) n _ (fun kb k hk => ?_) (fun kb => ?_) FU 0 (by omega) (by unfold FU; omega)
      · exact (st _ kb k hk).1 (hall k hk)
      · show g_X2_isSafe_10 _ kb a 2 (nI s) (nI (stp b s n)) (nI n) M = _
        have hsl := stp_le b s n
        unfold g_X2_isSafe_10
        rw [f6, if_pos (nI_le (Nat.le_refl n) (by omega))]
        dsimp only
        rw [f6]
        have g : ¬ stp b s n = n := fun z => h ⟨hall, Or.inl z⟩
        rw [if_neg (fun z => g ((nI_eq (by omega) (by omega)).mp z)), nI_add, pk_sub hsl, (f_stp hb hx (by omega) (by omega)).2 (fun z => h ⟨hall, Or.inr z⟩), cal_s, if_pos rfl, chZ_0]
    · have hex : ∃ k, k < n ∧ ¬ gl b s k := by
        apply Classical.byContradiction
        intro hno
        exact hall (fun k hk => Classical.byContradiction (fun z => hno ⟨k, hk, z⟩))
      obtain ⟨m, ⟨hm1, hm2⟩, hm3⟩ := pk_least _ hex
      refine lp_run _ (fun k => (nI (stp b s k), nI k, M)) m _ (fun kb k hk => ?_) (fun kb => ?_) FU 0 (by omega) (by unfold FU; omega)
      · exact (st _ kb k (by omega)).1 (Classical.byContradiction (fun z => hm3 k hk ⟨by omega, z⟩))
      · exact (st _ kb m hm1).2 hm2
