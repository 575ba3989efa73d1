theorem f_len0 {M : Me} {n k : Nat} {a : Int64} (hn : n < 12) (hk : k ≤ 8) (h5 : ¬ M.1 (19 + 6 * n) 5 = 2) (h7 : M.1 (19 + 6 * n) 7 = 0) : f_X0_lengthenName M (19 + 6 * n) a (nI k) = some ((), sI (wrX M (20 + 6 * n) 0 a k k) (19 + 6 * n) 7 (nI k)) := by
  have hl0 := ln_e0 hn
  unfold f_X0_lengthenName j_X0_lengthenName_13
  rw [if_neg h5, h7, show (0 : Int32) - 0 = nI 0 from rfl, rf_e0 hn, f_spr a hk (by omega) (by omega), cal_s, bnd_s, wrX_ne k (by omega), h7, if_neg (by decide), show (0 : Int32) + nI k = nI k from by rw [show (0 : Int32) = nI 0 from rfl, nI_add, Nat.zero_add]]
theorem f_len2 {M : Me} {n k : Nat} {a : Int64} (hn : n < 12) (hk : k ≤ 8) (h5 : M.1 (19 + 6 * n) 5 = 2) (h7 : M.1 (19 + 6 * n) 7 = 1) : f_X0_lengthenName M (19 + 6 * n) a (nI k) = some ((), sI (sI (wrX M (20 + 6 * n) 0 a k k) (19 + 6 * n) 7 (nI (k + 1))) (20 + 6 * n) k 47) := by
  have hl0 := ln_e0 hn
  have e1 : (1 : Int32) + nI k = nI (k + 1) := by rw [show (1 : Int32) = nI 1 from rfl, nI_add, Nat.add_comm]
  unfold f_X0_lengthenName j_X0_lengthenName_13
  rw [if_pos h5, h7, show (1 : Int32) - 1 = nI 0 from rfl, rf_e0 hn, f_spr a hk (by omega) (by omega), cal_s, bnd_s, wrX_ne k (by omega), h7, e1, if_pos rfl, sI_eq, if_neg (show ¬ (16 : Int32) < nI (k + 1) from nI_nlt (a := 16) (by omega) (by decide)), su_1 (by omega), Nat.add_sub_cancel, chk_n _ (by omega) (by omega), bnd_s, nI_clamp (by omega), b47]
theorem m1_i : (-1 : Int32) ≠ 0 := by decide
theorem op_entry {M : Me} (h : INV M) (κ φ : Int32) (a : Int64) (y : Int32) : OP (fun M => f_X4_entry M 0 κ φ a y) (fun M => f_X5_entry M 91 κ φ a y) M := by
  obtain ⟨n, z, c, hi⟩ := h
  have hn := hi.1.1
  have hxn := hi.xn
  by_cases hv : (0 ≤ κ.toInt ∧ κ.toInt ≤ 2) ∧ (0 ≤ φ.toInt ∧ φ.toInt ≤ 2) ∧ (κ.toInt = 2 → φ.toInt = 0)
  · -- kind and form are there
    have hX0 : ∀ M', f_X4_entry M' 0 κ φ a y = j_X4_entry_30 0 κ φ a y M' := by
      intro M'
      unfold f_X4_entry
      by_cases q : κ.toInt = 2
      · simp (disch := omega) only [ltc, eqc, t3_0, t3_2, if_neg, if_pos]
      · simp (disch := omega) only [ltc, eqc, t3_0, t3_2, if_neg, if_pos]
    have hκ2 : κ = 2 ↔ κ.toInt = 2 := ⟨fun q => by rw [q]; rfl, fun q => Int32.toInt_inj.mp (by rw [q]; rfl)⟩
    have hY0 : ∀ M', f_X5_entry M' 91 κ φ a y = (cal (f_X5_in (sI M' 91 0 0) y.toInt64 1 8) (fun r6 M7 => if r6 = 0 then some (-3, M7) else cal (f_X5_hasZero M7 a y) (fun r8 M9 => if r8 = 0 then if κ = 2 then j_X5_entry_80 91 κ φ a y M9 else if lg_cmp (a &&& 255) 47 = 0 then some (-3, M9) else j_X5_entry_80 91 κ φ a y M9 else some (-3, M9)))) := by
      intro M'
      unfold f_X5_entry
      rw [bnd_s, f_in, cal_s, i64_toInt, t6_0, t6_2, if_pos hv.1, if_neg (by decide)]
      unfold j_X5_entry_32
      by_cases q : κ.toInt = 2
      · rw [if_pos (hκ2.mpr q), f_in, cal_s, i64_toInt, t6_0, if_pos (show 0 ≤ φ.toInt ∧ φ.toInt ≤ 0 by omega), if_neg (by decide)]
      · rw [if_neg (fun z => q (hκ2.mp z)), f_in, cal_s, i64_toInt, t6_0, t6_2, if_pos (show 0 ≤ φ.toInt ∧ φ.toInt ≤ 2 by omega), if_neg (by decide)]
    by_cases hr : 1 ≤ y.toInt ∧ y.toInt ≤ 8
    · obtain ⟨k, e, h1, h2⟩ := nI_ofR hr.1 (by omega) hr.2
      subst e
      have hk : k ≤ 8 := by omega
      have hk1 : 1 ≤ k := by omega
      by_cases hz : zer a k
      · refine OP.read (r := -3) hi ?_ ?_
        · show f_X4_entry M 0 κ φ a (nI k) = _
          rw [hX0]
          unfold j_X4_entry_30
          rw [f_fit0 hk1 hk (Or.inl hz), cal_s, if_pos rfl]
        · show f_X5_entry M 91 κ φ a (nI k) = _
          rw [hY0, f_in, cal_s, i64_toInt, t6_1, t6_8, if_pos hr, if_neg (by decide), f_zero1 hk hz, cal_s, if_neg (by decide)]
      · by_cases hs : ¬ κ = 2 ∧ byv a 0 = 47
        · refine OP.read (r := -3) hi ?_ ?_
          · show f_X4_entry M 0 κ φ a (nI k) = _
            rw [hX0]
            unfold j_X4_entry_30
            rw [f_fit0 hk1 hk (Or.inr hs), cal_s, if_pos rfl]
          · show f_X5_entry M 91 κ φ a (nI k) = _
            rw [hY0, f_in, cal_s, i64_toInt, t6_1, t6_8, if_pos hr, if_neg (by decide), f_zero0 hk hz, cal_s, if_pos rfl, if_neg hs.1, if_pos ((slash_iff a).mpr hs.2)]
        · have hfit : f_X4_fitsName M κ a (nI k) = some (1, M) := f_fit1 hk1 hk hz (by
            by_cases q : κ = 2
            · exact Or.inl q
            · exact Or.inr (fun z => hs ⟨q, z⟩))
          have hY1 : ∀ M', f_X5_entry M' 91 κ φ a (nI k) = j_X5_entry_80 91 κ φ a (nI k) (sI M' 91 0 0) := by
            intro M'
            rw [hY0, f_in, cal_s, i64_toInt, t6_1, t6_8, if_pos hr, if_neg (by decide), f_zero0 hk hz, cal_s, if_pos rfl]
            by_cases q : κ = 2
            · rw [if_pos q]
            · rw [if_neg q, if_neg (fun z => hs ⟨q, (slash_iff a).mp z⟩)]
          by_cases hf : n < 12
          · have hκ3 : κ = 0 ∨ κ = 1 ∨ κ = 2 := by
              rcases (show κ.toInt = 0 ∨ κ.toInt = 1 ∨ κ.toInt = 2 by omega) with q | q | q
              · exact Or.inl (Int32.toInt_inj.mp (by rw [q]; rfl))
              · exact Or.inr (Or.inl (Int32.toInt_inj.mp (by rw [q]; rfl)))
              · exact Or.inr (Or.inr (Int32.toInt_inj.mp (by rw [q]; rfl)))
            have hφ3 : φ = 0 ∨ φ = 1 ∨ φ = 2 := by
              rcases (show φ.toInt = 0 ∨ φ.toInt = 1 ∨ φ.toInt = 2 by omega) with q | q | q
              · exact Or.inl (Int32.toInt_inj.mp (by rw [q]; rfl))
              · exact Or.inr (Or.inl (Int32.toInt_inj.mp (by rw [q]; rfl)))
              · exact Or.inr (Or.inr (Int32.toInt_inj.mp (by rw [q]; rfl)))
            by_cases hkd : κ = 2
            · -- a folder
              subst hkd
              obtain ⟨M1, hM1⟩ : ∃ M1, M1 = sI (sI (sI (wrX (sI (sI (e13 M (19 + 6 * n) 2 φ) (20 + 6 * n) 0 47) (19 + 6 * n) 7 1) (20 + 6 * n) 0 a k k) (19 + 6 * n) 7 (nI (k + 1))) (20 + 6 * n) k 47) 0 4 (nI (n + 1)) := ⟨_, rfl⟩
              have m1 : ∀ b j, 91 ≤ b → M1.1 b j = M.1 b j := fun b j hb => by rw [hM1, sI_ne (by omega), sI_ne (by omega), sI_ne (by omega), wrX_ne k (by omega), sI_ne (by omega), sI_ne (by omega), e13_ne (by omega)]
              obtain ⟨B0, hB0⟩ : ∃ B0, B0 = y13 (sI (sI M1 91 0 0) 91 2 (nI (n + 1))) n 2 φ := ⟨_, rfl⟩
              refine ⟨nI n, M1, sI (sI (sI (wrY B0 94 (16 * n) a k k) 95 n (nI k)) 94 (16 * n + k) 47) 95 n (nI (k + 1)), ?_, ?_, ?_⟩
              · show f_X4_entry M 0 2 φ a (nI k) = _
                rw [hX0]
                unfold j_X4_entry_30
                rw [hfit, cal_s, if_neg (by decide), hxn, if_pos (show nI n < (12 : Int32) from nI_lt (b := 12) hf (by decide)), rf_0_0, chk_n _ (show n < ln 1 by rw [ln_1]; omega) (by decide), bndV_s, nI_clamp (by omega), rf_E, f_beginX2 hf, cal_s, f_len2 hf hk (by rw [sI_ne (by omega), sI_ne (by omega), e13_5]) sI_eq, cal_s]
                simp (disch := omega) only [bnd_s, sI_ne, sI_eq, wrX_ne, e13_ne, hxn, nI_1, nI_add, su_1, Nat.add_sub_cancel, hM1]
              · show f_X5_entry M1 91 2 φ a (nI k) = _
                rw [hY1]
                unfold j_X5_entry_80
                have e2 : (sI M1 91 0 0).1 91 2 = nI n := by rw [sI_ne (by omega), m1 _ _ (by omega)]; exact hi.yn
                rw [e2, if_neg (show ¬ nI n = (12 : Int32) from fun q => by have := (nI_eq (show n < 2 ^ 31 by omega) (show 12 < 2 ^ 31 by decide)).mp q; omega), bndV_s, nI_1, bnd_s, f_beginY hf, cal_s, rf_91_3, rf_91_4, chk_n _ (show n < ln 92 by rw [ln_92]; omega) (by decide), bnd_s, chk_n _ (show n < ln 93 by rw [ln_93]; omega) (by decide), bnd_s, nI_clamp (by omega)]
                show l_X5_entry_133 _ 91 2 a (nI k) (nI n) 0 (y13 (sI (sI M1 91 0 0) 91 2 (nI (n + 1))) n 2 φ) = _
                rw [← hB0]
                unfold l_X5_entry_133
                refine lp_for _ (fun j => wrY B0 94 (16 * n) a k j) k _ (fun kb j hj => ?_) (fun kb => ?_) FU 0 (by omega) (by unfold FU; omega)
                · show g_X5_entry_133 _ kb 91 2 a (nI k) (nI n) (nI j) _ = _
                  unfold g_X5_entry_133
                  rw [if_neg (nI_ge hj (by omega)), f_byt a hk hj]
                  simp (disch := omega) only [cal_s, bnd_s, bndV_s, chZ_0, chZ_1, rf_0_0, rf_0_1, rf_0_2, rf_0_3, rf_2_0, rf_4_0, rf_4_1, rf_91_3, rf_91_4, rf_91_5, rf_91_6, rf_91_7, rf_91_8, rf_91_9, rf_91_10, rf_91_11, rf_91_12, rf_91_13, rf_91_14, rf_91_15, rf_91_16, rf_91_17, rf_91_18, rf_91_19, rf_91_20, rf_91_21, rf_91_23, rf_91_33, rf_91_42, rf_91_43, rf_E, rf_R, rf_e0, rf_e1, rf_e2, rf_e3, rf_e4, ln_e0, ln_e1, ln_e2, ln_e3, ln_e4, mu_16, mu_40, mu_3, mu_8, um_8, nI_add, nI_1, chk_n, ln_1, ln_3, ln_5, ln_18, ln_92, ln_93, ln_94, ln_95, ln_96, ln_97, ln_98, ln_99, ln_100, ln_101, ln_102, ln_103, ln_104, ln_105, ln_106, ln_107, ln_108, ln_109, ln_110, ln_111, ln_112, ln_113, ln_114, nI_clamp, sI_ne, sI_eq, ltc, lec, eqc, t3_m306674912, t3_m30, t3_m10, t3_m5, t3_m4, t3_m3, t3_m2, t3_m1, t3_0, t3_1, t3_2, t3_3, t3_4, t3_5, t3_6, t3_7, t3_8, t3_9, t3_10, t3_11, t3_12, t3_13, t3_14, t3_15, t3_16, t3_17, t3_18, t3_19, t3_20, t3_22, t3_24, t3_26, t3_28, t3_30, t3_31, t3_32, t3_38, t3_40, t3_42, t3_46, t3_47, t3_60, t3_92, t3_255, t3_512, t3_1980, t3_2000, t3_2048, t3_2107, t3_3600, t3_65535, t3_86399, t3_1000000, t6_m3, t6_m2, t6_0, t6_1, t6_2, t6_8, t6_12, t6_16, t6_20, t6_30, t6_31, t6_40, t6_45, t6_47, t6_255, t6_1980, t6_2107, t6_65535, t6_86399, t6_1000000, t6_33639248, t6_67324752, t6_101010256, t6_134695760, t6_4294967295, nI_toInt, i64_toInt, f_in, if_pos, if_neg, if_true, if_false]
                  rfl
                · show g_X5_entry_133 _ kb 91 2 a (nI k) (nI n) (nI k) _ = _
                  unfold g_X5_entry_133
                  rw [if_pos (nI_le (Nat.le_refl k) (by omega))]
                  simp (disch := omega) only [rf_91_6, rf_91_5, chk_n, ln_95, ln_94, nI_clamp, bnd_s, sI_ne, sI_eq, nI_add, nI_1, mu_16, if_true]
              · have hX : WX (enL n k 2 φ a true) M M1 := by
                  have h3 := ((e13_w (M := M) (κ := 2) (φ := φ) hf).cons (a0 := 94) (k0 := 16 * n + 0) (vd_l hf (by omega)) (v := 47) m47)
                  rw [loc_l (by omega)] at h3
                  have h4 := h3.cons (a0 := 95) (k0 := n) (vd_s (by omega) hf) (v := 1) (w := 1) (msk_id (by omega))
                  have h5 := h4.trans (wrX_w (M := sI (sI (e13 M (19 + 6 * n) 2 φ) (20 + 6 * n) 0 47) (19 + 6 * n) 7 1) (x := 20 + 6 * n) (y := 0) (r := 94) (q := 16 * n) (a := a) (n := k) (by unfold byr; omega) k (fun j hj => ⟨vd_l hf (by omega), by rw [Nat.zero_add]; exact loc_l (by omega)⟩))
                  have h6 := (h5.cons (a0 := 95) (k0 := n) (vd_s (by omega) hf) (v := nI (k + 1)) (w := nI (k + 1)) (msk_id (by omega))).cons (a0 := 94) (k0 := 16 * n + k) (vd_l hf (by omega)) (v := 47) m47
                  rw [loc_l (by omega)] at h6
                  have h7 := h6.cons (a0 := 91) (k0 := 2) (vd_h (by omega)) (v := nI (n + 1)) (w := nI (n + 1)) (msk_id (by omega))
                  rw [hM1]
                  refine ⟨fun b j hv => (h7.1 b j hv).trans ?_, h7.2⟩
                  show (if b = 91 ∧ j = 2 then _ else if b = 94 ∧ j = 16 * n + k then _ else if b = 95 ∧ j = n then _ else ups (wl 94 (16 * n) a k k ++ (95, n, 1) :: (94, 16 * n + 0, nI 47) :: lbX n 2 φ) (AX M) b j) = if b = 91 ∧ j = 2 then _ else if b = 94 ∧ j = 16 * n + k then _ else if b = 95 ∧ j = n then _ else ups (wl 94 (16 * n) a k k ++ lbX n 2 φ) (AX M) b j
                  by_cases q1 : b = 91 ∧ j = 2
                  · rw [if_pos q1, if_pos q1]
                  · rw [if_neg q1, if_neg q1]
                    by_cases q2 : b = 94 ∧ j = 16 * n + k
                    · rw [if_pos q2, if_pos q2]
                    · rw [if_neg q2, if_neg q2]
                      by_cases q3 : b = 95 ∧ j = n
                      · rw [if_pos q3, if_pos q3]
                      · rw [if_neg q3, if_neg q3, ups_app, ups_app]
                        by_cases q4 : b = 94 ∧ 16 * n ≤ j ∧ j < 16 * n + k
                        · obtain ⟨q5, q6, q7⟩ := q4
                          subst q5
                          exact wl_in q6 q7
                        · refine ups_cong ?_
                          show (if b = 95 ∧ j = n then _ else if b = 94 ∧ j = 16 * n + 0 then _ else ups (lbX n 2 φ) (AX M) b j) = _
                          rw [if_neg q3, if_neg (by omega)]
                have hY : WY (enL n k 2 φ a true) M1 (sI (sI (sI (wrY B0 94 (16 * n) a k k) 95 n (nI k)) 94 (16 * n + k) 47) 95 n (nI (k + 1))) := by
                  have h3 := ((WY.nil (M := M1)).scr (x := 91) (y := 0) (v := 0) (by omega)).cons (a0 := 91) (k0 := 2) (w := nI (n + 1)) (by omega)
                  have h4 := h3.trans (y13_w (M := sI (sI M1 91 0 0) 91 2 (nI (n + 1))) (n := n) (κ := 2) (φ := φ))
                  rw [← hB0] at h4
                  have h5 := h4.trans (wrY_w (M := B0) (r := 94) (q := 16 * n) (a := a) (n := k) (by omega) k)
                  have h6 := (((h5.cons (a0 := 95) (k0 := n) (w := nI k) (by omega)).cons (a0 := 94) (k0 := 16 * n + k) (w := 47) (by omega)).cons (a0 := 95) (k0 := n) (w := nI (k + 1)) (by omega))
                  refine ⟨h6.1, fun b j hr => (h6.2 b j hr).trans ?_⟩
                  show (if b = 95 ∧ j = n then _ else if b = 94 ∧ j = 16 * n + k then _ else if b = 95 ∧ j = n then _ else ups (wl 94 (16 * n) a k k ++ (lbX n 2 φ ++ [(91, 2, nI (n + 1))])) M1.1 b j) = if b = 91 ∧ j = 2 then nI (n + 1) else if b = 94 ∧ j = 16 * n + k then _ else if b = 95 ∧ j = n then _ else ups (wl 94 (16 * n) a k k ++ lbX n 2 φ) M1.1 b j
                  by_cases q1 : b = 91 ∧ j = 2
                  · rw [if_neg (by omega), if_neg (by omega), if_neg (by omega), if_pos q1, ups_app, wl_no (by omega), ups_app, lb_no (Or.inr (by unfold lbR; omega))]
                    show (if b = 91 ∧ j = 2 then _ else _) = _
                    rw [if_pos q1]
                  · rw [if_neg q1]
                    by_cases q3 : b = 95 ∧ j = n
                    · rw [if_pos q3, if_neg (by omega), if_pos q3]
                    · rw [if_neg q3, if_neg q3, if_neg q3]
                      by_cases q2 : b = 94 ∧ j = 16 * n + k
                      · rw [if_pos q2, if_pos q2]; rfl
                      · rw [if_neg q2, if_neg q2, ups_app, ups_app]
                        refine ups_cong ?_
                        rw [ups_app]
                        refine ups_cong ?_
                        show (if b = 91 ∧ j = 2 then _ else _) = _
                        rw [if_neg q1]
                        rfl
                have hxb : XB (sI (sI (sI (wrY B0 94 (16 * n) a k k) 95 n (nI k)) 94 (16 * n + k) 47) 95 n (nI (k + 1))) := by
                  rw [hB0, hM1]
                  exact (((wrY_xb (y13_xb (((((((wrX_xb (((e13_xb hi.xb).upb b47b).up (by omega)) k).up (by omega)).upb b47b).up (by omega)).up (by omega)).up (by omega)))) (by omega) k).up (by omega)).up (by omega)).up (by omega)
                exact ⟨n + 1, z, c, enL_iv hX hY hxb hi hf hk1 hk hκ3 hφ3⟩
            · obtain ⟨M1, hM1⟩ : ∃ M1, M1 = sI (sI (wrX (e13 M (19 + 6 * n) κ φ) (20 + 6 * n) 0 a k k) (19 + 6 * n) 7 (nI k)) 0 4 (nI (n + 1)) := ⟨_, rfl⟩
              have m1 : ∀ b j, 91 ≤ b → M1.1 b j = M.1 b j := fun b j hb => by rw [hM1, sI_ne (by omega), sI_ne (by omega), wrX_ne k (by omega), e13_ne (by omega)]
              obtain ⟨B0, hB0⟩ : ∃ B0, B0 = y13 (sI (sI M1 91 0 0) 91 2 (nI (n + 1))) n κ φ := ⟨_, rfl⟩
              refine ⟨nI n, M1, sI (wrY B0 94 (16 * n) a k k) 95 n (nI k), ?_, ?_, ?_⟩
              · show f_X4_entry M 0 κ φ a (nI k) = _
                rw [hX0]
                unfold j_X4_entry_30
                rw [hfit, cal_s, if_neg (by decide), hxn, if_pos (show nI n < (12 : Int32) from nI_lt (b := 12) hf (by decide)), rf_0_0, chk_n _ (show n < ln 1 by rw [ln_1]; omega) (by decide), bndV_s, nI_clamp (by omega), rf_E, f_beginX hkd, cal_s, f_len0 hf hk (by rw [e13_5]; exact hkd) e13_7, cal_s]
                simp (disch := omega) only [bnd_s, sI_ne, sI_eq, wrX_ne, e13_ne, hxn, nI_1, nI_add, su_1, Nat.add_sub_cancel, hM1]
              · show f_X5_entry M1 91 κ φ a (nI k) = _
                rw [hY1]
                unfold j_X5_entry_80
                have e2 : (sI M1 91 0 0).1 91 2 = nI n := by rw [sI_ne (by omega), m1 _ _ (by omega)]; exact hi.yn
                rw [e2, if_neg (show ¬ nI n = (12 : Int32) from fun q => by have := (nI_eq (show n < 2 ^ 31 by omega) (show 12 < 2 ^ 31 by decide)).mp q; omega), bndV_s, nI_1, bnd_s, f_beginY hf, cal_s, rf_91_3, rf_91_4, chk_n _ (show n < ln 92 by rw [ln_92]; omega) (by decide), bnd_s, chk_n _ (show n < ln 93 by rw [ln_93]; omega) (by decide), bnd_s, nI_clamp (by omega)]
                show l_X5_entry_133 _ 91 κ a (nI k) (nI n) 0 (y13 (sI (sI M1 91 0 0) 91 2 (nI (n + 1))) n κ φ) = _
                rw [← hB0]
                unfold l_X5_entry_133
                refine lp_for _ (fun j => wrY B0 94 (16 * n) a k j) k _ (fun kb j hj => ?_) (fun kb => ?_) FU 0 (by omega) (by unfold FU; omega)
                · show g_X5_entry_133 _ kb 91 κ a (nI k) (nI n) (nI j) _ = _
                  unfold g_X5_entry_133
                  rw [if_neg (nI_ge hj (by omega)), f_byt a hk hj]
                  simp (disch := omega) only [cal_s, bnd_s, bndV_s, chZ_0, chZ_1, rf_0_0, rf_0_1, rf_0_2, rf_0_3, rf_2_0, rf_4_0, rf_4_1, rf_91_3, rf_91_4, rf_91_5, rf_91_6, rf_91_7, rf_91_8, rf_91_9, rf_91_10, rf_91_11, rf_91_12, rf_91_13, rf_91_14, rf_91_15, rf_91_16, rf_91_17, rf_91_18, rf_91_19, rf_91_20, rf_91_21, rf_91_23, rf_91_33, rf_91_42, rf_91_43, rf_E, rf_R, rf_e0, rf_e1, rf_e2, rf_e3, rf_e4, ln_e0, ln_e1, ln_e2, ln_e3, ln_e4, mu_16, mu_40, mu_3, mu_8, um_8, nI_add, nI_1, chk_n, ln_1, ln_3, ln_5, ln_18, ln_92, ln_93, ln_94, ln_95, ln_96, ln_97, ln_98, ln_99, ln_100, ln_101, ln_102, ln_103, ln_104, ln_105, ln_106, ln_107, ln_108, ln_109, ln_110, ln_111, ln_112, ln_113, ln_114, nI_clamp, sI_ne, sI_eq, ltc, lec, eqc, t3_m306674912, t3_m30, t3_m10, t3_m5, t3_m4, t3_m3, t3_m2, t3_m1, t3_0, t3_1, t3_2, t3_3, t3_4, t3_5, t3_6, t3_7, t3_8, t3_9, t3_10, t3_11, t3_12, t3_13, t3_14, t3_15, t3_16, t3_17, t3_18, t3_19, t3_20, t3_22, t3_24, t3_26, t3_28, t3_30, t3_31, t3_32, t3_38, t3_40, t3_42, t3_46, t3_47, t3_60, t3_92, t3_255, t3_512, t3_1980, t3_2000, t3_2048, t3_2107, t3_3600, t3_65535, t3_86399, t3_1000000, t6_m3, t6_m2, t6_0, t6_1, t6_2, t6_8, t6_12, t6_16, t6_20, t6_30, t6_31, t6_40, t6_45, t6_47, t6_255, t6_1980, t6_2107, t6_65535, t6_86399, t6_1000000, t6_33639248, t6_67324752, t6_101010256, t6_134695760, t6_4294967295, nI_toInt, i64_toInt, f_in, if_pos, if_neg, if_true, if_false]
                  rfl
                · show g_X5_entry_133 _ kb 91 κ a (nI k) (nI n) (nI k) _ = _
                  unfold g_X5_entry_133
                  rw [if_pos (nI_le (Nat.le_refl k) (by omega))]
                  simp (disch := omega) only [rf_91_6, rf_91_5, chk_n, ln_95, ln_94, nI_clamp, bnd_s, hkd, if_false]
              · have hX : WX (enL n k κ φ a false) M M1 := by
                  have h5 := (e13_w (M := M) (κ := κ) (φ := φ) hf).trans (wrX_w (M := e13 M (19 + 6 * n) κ φ) (x := 20 + 6 * n) (y := 0) (r := 94) (q := 16 * n) (a := a) (n := k) (by unfold byr; omega) k (fun j hj => ⟨vd_l hf (by omega), by rw [Nat.zero_add]; exact loc_l (by omega)⟩))
                  rw [hM1]
                  exact (h5.cons (a0 := 95) (k0 := n) (vd_s (by omega) hf) (v := nI k) (w := nI k) (msk_id (by omega))).cons (a0 := 91) (k0 := 2) (vd_h (by omega)) (v := nI (n + 1)) (w := nI (n + 1)) (msk_id (by omega))
                have hY : WY (enL n k κ φ a false) M1 (sI (wrY B0 94 (16 * n) a k k) 95 n (nI k)) := by
                  have h3 := ((WY.nil (M := M1)).scr (x := 91) (y := 0) (v := 0) (by omega)).cons (a0 := 91) (k0 := 2) (w := nI (n + 1)) (by omega)
                  have h4 := h3.trans (y13_w (M := sI (sI M1 91 0 0) 91 2 (nI (n + 1))) (n := n) (κ := κ) (φ := φ))
                  rw [← hB0] at h4
                  have h5 := h4.trans (wrY_w (M := B0) (r := 94) (q := 16 * n) (a := a) (n := k) (by omega) k)
                  have h6 := h5.cons (a0 := 95) (k0 := n) (w := nI k) (by omega)
                  refine ⟨h6.1, fun b j hr => (h6.2 b j hr).trans ?_⟩
                  show (if b = 95 ∧ j = n then _ else ups (wl 94 (16 * n) a k k ++ (lbX n κ φ ++ [(91, 2, nI (n + 1))])) M1.1 b j) = if b = 91 ∧ j = 2 then nI (n + 1) else if b = 95 ∧ j = n then _ else ups (wl 94 (16 * n) a k k ++ lbX n κ φ) M1.1 b j
                  by_cases q1 : b = 91 ∧ j = 2
                  · rw [if_neg (by omega), if_pos q1, ups_app, wl_no (by omega), ups_app, lb_no (Or.inr (by unfold lbR; omega))]
                    show (if b = 91 ∧ j = 2 then _ else _) = _
                    rw [if_pos q1]
                  · rw [if_neg q1]
                    by_cases q3 : b = 95 ∧ j = n
                    · rw [if_pos q3, if_pos q3]
                    · rw [if_neg q3, if_neg q3, ups_app, ups_app]
                      refine ups_cong ?_
                      rw [ups_app]
                      refine ups_cong ?_
                      show (if b = 91 ∧ j = 2 then _ else _) = _
                      rw [if_neg q1]
                      rfl
                have hxb : XB (sI (wrY B0 94 (16 * n) a k k) 95 n (nI k)) := by
                  rw [hB0, hM1]
                  exact (wrY_xb (y13_xb (((((wrX_xb (e13_xb hi.xb) k).up (by omega)).up (by omega)).up (by omega)).up (by omega))) (by omega) k).up (by omega)
                exact ⟨n + 1, z, c, enL_iv hX hY hxb hi hf hk1 hk hκ3 hφ3⟩
          · have hn12 : n = 12 := by omega
            refine OP.read (r := -5) hi ?_ ?_
            · show f_X4_entry M 0 κ φ a (nI k) = _
              rw [hX0]
              unfold j_X4_entry_30
              rw [hfit, cal_s, if_neg (by decide), hxn, hn12, if_neg (by decide)]
            · show f_X5_entry M 91 κ φ a (nI k) = _
              rw [hY1]
              unfold j_X5_entry_80
              rw [sI_ne (by omega), hi.yn, hn12, if_pos (by decide)]
    · refine OP.read (r := -3) hi ?_ ?_
      · show f_X4_entry M 0 κ φ a y = _
        rw [hX0]
        unfold j_X4_entry_30
        rw [f_fitR hr, cal_s, if_pos rfl]
      · show f_X5_entry M 91 κ φ a y = _
        rw [hY0, f_in, cal_s, i64_toInt, t6_1, t6_8, if_neg hr, if_pos rfl]
  · refine OP.read (r := -3) hi ?_ ?_
    · show f_X4_entry M 0 κ φ a y = _
      unfold f_X4_entry
      simp only [ltc, eqc, t3_0, t3_2]
      repeat' split
      all_goals first | rfl | (exfalso; omega)
    · show f_X5_entry M 91 κ φ a y = _
      unfold f_X5_entry
      rw [bnd_s, f_in, cal_s, i64_toInt, t6_0, t6_2]
      by_cases q : 0 ≤ κ.toInt ∧ κ.toInt ≤ 2
      · rw [if_pos q, if_neg (by decide)]
        unfold j_X5_entry_32
        by_cases q2 : κ = 2
        · have q3 : κ.toInt = 2 := by rw [q2]; rfl
          rw [if_pos q2, f_in, cal_s, i64_toInt, t6_0, if_neg (show ¬ (0 ≤ φ.toInt ∧ φ.toInt ≤ 0) by omega), if_pos rfl]
        · have q3 : κ.toInt ≠ 2 := fun z => q2 (Int32.toInt_inj.mp (by rw [z]; rfl))
          rw [if_neg q2, f_in, cal_s, i64_toInt, t6_0, t6_2, if_neg (show ¬ (0 ≤ φ.toInt ∧ φ.toInt ≤ 2) by omega), if_pos rfl]
      · rw [if_neg q, if_pos rfl]
