theorem f_plX {M : Me} {σ : Nat → Nat → Int32} {f : Nat} (hf : f ≤ 12) (h17 : ∀ i, i < f → M.1 (19 + 6 * i) 17 = σ 109 i) : ((∃ i, i < f ∧ σ 109 i = -1) → f_X4_allPlacedBefore M 0 (nI f) = some (0, M)) ∧ ((¬ ∃ i, i < f ∧ σ 109 i = -1) → f_X4_allPlacedBefore M 0 (nI f) = some (1, M)) := by
  have st : ∀ kx kb j, j < f → g_X4_allPlacedBefore_2 kx kb 0 (nI f) (nI j) M = if σ 109 j = -1 then some (0, M) else kb (nI (j + 1), M) := by
    intro kx kb j hj
    unfold g_X4_allPlacedBefore_2
    rw [if_neg (nI_ge hj (by omega)), rf_0_0, chk_n _ (show j < ln 1 by rw [ln_1]; omega) (by decide), nI_clamp (by omega), rf_E, h17 j hj, chZ_0, bndV_s, nI_1]
  unfold f_X4_allPlacedBefore l_X4_allPlacedBefore_2
  refine ⟨fun hb => ?_, fun hb => ?_⟩
  · refine lp_hit _ M f (fun j => σ 109 j = -1) _ (fun kb j hj hp => ?_) (fun kb j hj hp => ?_) FU 0 (by unfold FU; omega) ?_
    · exact (st _ kb j hj).trans (if_pos hp)
    · exact (st _ kb j hj).trans (if_neg hp)
    · obtain ⟨i, h1, h2⟩ := hb
      exact ⟨i, by omega, h1, h2⟩
  · refine lp_all _ M f (fun j => σ 109 j = -1) _ (fun kb j hj hp => ?_) (fun kb => ?_) hb FU 0 (by omega) (by unfold FU; omega)
    · exact (st _ kb j hj).trans (if_neg hp)
    · show g_X4_allPlacedBefore_2 _ kb 0 (nI f) (nI f) M = _
      unfold g_X4_allPlacedBefore_2
      rw [if_pos (nI_le (Nat.le_refl f) (by omega))]
      exact chZ_1 _
theorem l_plY {M : Me} {σ : Nat → Nat → Int32} {f : Nat} {kx : Int32 → Me → Option (Int32 × Me)} (hf : f ≤ 12) (h109 : ∀ i, i < f → M.1 109 i = σ 109 i) (hs : ∀ i, i < f → σ 109 i = -1 ∨ 0 ≤ σ 109 i) : ((∃ i, i < f ∧ σ 109 i = -1) → l_X5_add_24 kx 91 (nI f) 0 M = some (-4, M)) ∧ ((¬ ∃ i, i < f ∧ σ 109 i = -1) → l_X5_add_24 kx 91 (nI f) 0 M = kx (nI f) M) := by
  have st : ∀ kb j, j < f → g_X5_add_24 kx kb 91 (nI f) (nI j) M = if σ 109 j = -1 then some (-4, M) else kb (nI (j + 1), M) := by
    intro kb j hj
    unfold g_X5_add_24
    rw [if_neg (nI_ge hj (by omega)), rf_91_20, chk_n _ (show j < ln 109 by rw [ln_109]; omega) (by decide), nI_clamp (by omega), h109 j hj, bndV_s, nI_1]
    by_cases q : σ 109 j = -1
    · rw [if_pos q, q, if_neg (by decide)]
    · rcases hs j hj with q2 | q2
      · exact absurd q2 q
      · rw [if_neg q, if_pos q2]
  unfold l_X5_add_24
  refine ⟨fun hb => ?_, fun hb => ?_⟩
  · refine lp_hit _ M f (fun j => σ 109 j = -1) _ (fun kb j hj hp => ?_) (fun kb j hj hp => ?_) FU 0 (by unfold FU; omega) ?_
    · exact (st kb j hj).trans (if_pos hp)
    · exact (st kb j hj).trans (if_neg hp)
    · obtain ⟨i, h1, h2⟩ := hb
      exact ⟨i, by omega, h1, h2⟩
  · refine lp_all _ M f (fun j => σ 109 j = -1) _ (fun kb j hj hp => ?_) (fun kb => ?_) hb FU 0 (by omega) (by unfold FU; omega)
    · exact (st kb j hj).trans (if_neg hp)
    · show g_X5_add_24 _ kb 91 (nI f) (nI f) M = _
      unfold g_X5_add_24
      rw [if_pos (nI_le (Nat.le_refl f) (by omega))]
theorem op_add {M : Me} (h : INV M) (x : Int32) : OP (fun M => f_X4_add M 0 x) (fun M => f_X5_add M 91 x) M := by
  obtain ⟨n, z0, c, hi⟩ := h
  have hn := hi.1.1
  have hcl := hi.1.2.2.1
  have hz2 := hi.1.2.1
  have hX := fun i (h : i < n) => hi.ex h
  have hxn := hi.xn
  by_cases hr : 0 ≤ x.toInt ∧ x.toInt ≤ (n : Int)
  · obtain ⟨f, e, q1, q2⟩ := nI_ofR hr.1 (by omega) hr.2
    subst e
    have hf : f ≤ n := by omega
    have hX0 : ∀ A : Option (Int32 × Me), (if nI f < (0 : Int32) then some ((-2 : Int32), M) else if nI f ≤ (M.1 0 4) then A else some ((-2 : Int32), M)) = A := by
      intro A
      rw [if_neg (nI_pos (by omega)), hxn, if_pos (nI_le hf (by omega))]
    have hY0 : ∀ M', M'.1 91 2 = nI n → M'.1 91 24 = nI z0 → f_X5_add M' 91 (nI f) = l_X5_add_24 (fun v6 M7 => cal (f_X5_goes M7 91 (nI f) (M7.1 91 24)) (fun r8 M9 => some (r8, M9))) 91 (nI f) (0 : Int32) (sI M' 91 0 0) := by
      intro M' e1 e2
      unfold f_X5_add
      rw [bnd_s, sI_ne (by omega), e1, f_in, cal_s, i64_toInt, i64_toInt, t6_0, nI_toInt (by omega), nI_toInt (by omega), if_pos (show (0 : Int) ≤ (f : Int) ∧ (f : Int) ≤ (n : Int) by omega), if_neg (by decide)]
    have hpx := f_plX (M := M) (σ := M.1) (f := f) (by omega) (fun i h => hi.x17 (by omega))
    have hs109 : ∀ i, i < f → M.1 109 i = -1 ∨ 0 ≤ M.1 109 i := by
      intro i hif
      obtain ⟨nl, dl, pc, g1, g2, g3, g4, g5, g6, g7, g8, g9, g10, g11, g12, g13, g14⟩ := hi.2.2.1 i (by omega)
      exact g13
    by_cases hpl : ∃ i, i < f ∧ M.1 109 i = -1
    · refine OP.read (r := -4) hi ?_ ?_
      · show f_X4_add M 0 (nI f) = _
        unfold f_X4_add
        rw [hX0, hpx.1 hpl, cal_s, if_pos rfl]
      · show f_X5_add M 91 (nI f) = _
        rw [hY0 M hi.yn hi.yz]
        exact (l_plY (M := sI M 91 0 0) (σ := M.1) (by omega) (fun i h => by rw [sI_ne (by omega)]) hs109).1 hpl
    · have hYk : ∀ M', M'.1 91 2 = nI n → M'.1 91 24 = nI z0 → (∀ k, M'.1 109 k = M.1 109 k) → f_X5_add M' 91 (nI f) = cal (f_X5_goes (sI M' 91 0 0) 91 (nI f) (nI z0)) (fun r8 M9 => some (r8, M9)) := by
        intro M' e1 e2 e3
        rw [hY0 M' e1 e2, (l_plY (M := sI M' 91 0 0) (σ := M.1) (by omega) (fun i h => by rw [sI_ne (by omega)]; exact e3 i) hs109).2 hpl, sI_ne (by omega), e2]
      rcases f_barX hn hX hi.xn with ⟨hb, hbx⟩ | ⟨hb, hbx⟩
      · refine OP.fault (v := 1) hi ?_ ?_
        · show f_X4_add M 0 (nI f) = _
          unfold f_X4_add f_X4_faultOf
          rw [hX0, hpx.2 hpl, cal_s, if_neg (by decide), hbx, cal_s, if_neg (by decide)]
          rfl
        · show f_X5_add (sI M 0 6 1) 91 (nI f) = _
          rw [hYk _ (by rw [sI_ne (by omega)]; exact hi.yn) (by rw [sI_ne (by omega)]; exact hi.yz) (fun k => by rw [sI_ne (by omega)])]
          unfold f_X5_goes f_X5_fails
          rw [(f_barY (M := sI (sI M 0 6 1) 91 0 0) (σ := M.1) hn (fun a k h1 h2 => by rw [sI_ne (by omega), sI_ne (by omega)]) (by rw [sI_ne (by omega), sI_ne (by omega)]; exact hi.yn)).1 hb, cal_s, if_neg (by decide)]
          rfl
      · have hlf := f_lfX (M := M) (σ := M.1) (f := f) hn hcl hf hX hi.2.2.1 hi.xn hi.xc
        have hL := lenS_le (f := f) hi.2.2.1 n (Nat.le_refl n)
        by_cases hl : z0 + (22 + c + lenS M.1 f n) ≤ 2000
        · obtain ⟨r, M1, M2, h1, h2, h3⟩ := goes_op (f := f) (z := z0) hi hf (by omega) hb (by omega)
          rw [sI_self hi.xz] at h1
          have hsame : ∀ x y, 91 ≤ x → M1.1 x y = M.1 x y := by
            intro x y hx
            have hX2 := f_putX (M := M) (σ := M.1) (n := n) (c := c) (f := f) (z := z0) hn hcl hf hX hi.2.2.1 hi.2.1 (fun i h => hi.x17 h) hi.xn hi.xc (fun k hk => hi.xrm hk) hi.xz (by rw [all_len]; omega)
            rw [hX2] at h1
            have e1 := congrArg Prod.snd (Option.some.inj h1)
            rw [← show _ = M1 from e1]
            show (ap 3 2 1 bI _ _ _).1 x y = _
            rw [ap_ne _ _ _ (by omega) (by omega), bsX_ne _ (fun e g1 g2 q => by omega)]
          refine ⟨r, M1, M2, ?_, ?_, h3⟩
          · show f_X4_add M 0 (nI f) = _
            unfold f_X4_add
            rw [hX0, hpx.2 hpl, cal_s, if_neg (by decide), hbx, cal_s, if_pos rfl, hlf, cal_s, rf_0_1, hi.xz, nI_add, if_pos (show nI (z0 + (22 + c + lenS M.1 f n)) ≤ (2000 : Int32) from nI_le (b := 2000) hl (by decide)), h1, cal_s]
          · show f_X5_add M1 91 (nI f) = _
            rw [hYk M1 (by rw [hsame _ _ (by omega)]; exact hi.yn) (by rw [hsame _ _ (by omega)]; exact hi.yz) (fun k => hsame _ _ (by omega)), h2, cal_s]
        · refine OP.read (r := -5) hi ?_ ?_
          · show f_X4_add M 0 (nI f) = _
            unfold f_X4_add
            rw [hX0, hpx.2 hpl, cal_s, if_neg (by decide), hbx, cal_s, if_pos rfl, hlf, cal_s, rf_0_1, hi.xz, nI_add, if_neg (show ¬ nI (z0 + (22 + c + lenS M.1 f n)) ≤ (2000 : Int32) from nI_ge (a := 2000) (by omega) (by omega))]
          · show f_X5_add M 91 (nI f) = _
            have hal := all_len M.1 f n c z0
            have h2 : f_X5_goes (sI M 91 0 0) 91 (nI f) (nI z0) = some (-5, sI M 91 0 0) := (f_goesY (M := sI M 91 0 0) (σ := M.1) (n := n) (c := c) (f := f) (z := z0) hn hcl hf hz2 (fun a k h1 h2 => by rw [sI_ne (by omega)]) hi.2.2.1 hi.2.1 (fun k hk => by rw [sI_ne (by omega)]) (by rw [sI_ne (by omega)]; exact hi.yn) (by rw [sI_ne (by omega)]; exact hi.yc) (fun k => by rw [sI_ne (by omega)]) hb).trans (if_neg (by omega))
            rw [hYk M hi.yn hi.yz (fun k => rfl), h2, cal_s]
  · refine OP.read (r := -2) hi ?_ ?_
    · show f_X4_add M 0 x = _
      unfold f_X4_add
      rw [hxn]
      simp only [ltc, lec, t3_0]
      rw [nI_toInt (by omega)]
      by_cases q : x.toInt < 0
      · rw [if_pos q]
      · rw [if_neg q, if_neg (by omega)]
    · show f_X5_add M 91 x = _
      unfold f_X5_add
      rw [bnd_s, sI_ne (by omega), hi.yn, f_in, cal_s, i64_toInt, i64_toInt, t6_0, nI_toInt (by omega), if_neg hr, if_pos rfl]
