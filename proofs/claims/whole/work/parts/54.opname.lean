theorem op_name {M : Me} (h : INV M) (x : Int32) (a : Int64) (y : Int32) : OP (fun M => f_X4_name M 0 x a y) (fun M => f_X5_name M 91 x a y) M := by
  obtain ⟨n, z, c, hi⟩ := h
  have hn := hi.1.1
  have hy0 := yn0 hi
  by_cases he : ∃ i, i < n ∧ x = nI i
  · obtain ⟨i, hin, e⟩ := he
    subst e
    have hu := xk1 hi hin
    obtain ⟨nl, dl, pc, g1, g2, g3, g4, g5, g6, g7, g8, g9, g10, g11, g12, g13, g14⟩ := hi.2.2.1 i hin
    have hx7 := hi.x7 hin
    rw [g5] at hx7
    have hxk := hi.xk hin
    have hl0 := ln_e0 (i := i) (by omega)
    have yk := yk1 (M := sI M 91 0 0) hn hy0 hin
    by_cases hr : 1 ≤ y.toInt ∧ y.toInt ≤ 8
    · obtain ⟨k, e, h1, h2⟩ := nI_ofR hr.1 (by omega) hr.2
      subst e
      have hk : k ≤ 8 := by omega
      have hk1 : 1 ≤ k := by omega
      by_cases hz : zer a k
      · refine OP.read (r := -3) hi ?_ ?_
        · show f_X4_name M 0 (nI i) a (nI k) = _
          unfold f_X4_name
          rw [hu, cal_s, if_pos rfl, rf_0_0, chk_n _ (show i < ln 1 by rw [ln_1]; omega) (by decide), bndV_s, f_fit0 hk1 hk (Or.inl hz), cal_s, if_pos rfl]
        · show f_X5_name M 91 (nI i) a (nI k) = _
          unfold f_X5_name
          rw [bnd_s, yk, cal_s, if_neg (by decide), f_in, cal_s, i64_toInt, t6_1, t6_8, if_pos hr, if_neg (by decide), f_zero1 hk hz, cal_s, if_neg (by decide)]
      · by_cases hs : ¬ (M.1 92 i).toInt = 2 ∧ byv a 0 = 47
        · have hkd : ¬ M.1 92 i = 2 := fun q => hs.1 (by rw [q]; rfl)
          refine OP.read (r := -3) hi ?_ ?_
          · show f_X4_name M 0 (nI i) a (nI k) = _
            unfold f_X4_name
            rw [hu, cal_s, if_pos rfl, rf_0_0, chk_n _ (show i < ln 1 by rw [ln_1]; omega) (by decide), bndV_s, nI_clamp (by omega), rf_E, hxk, f_fit0 hk1 hk (Or.inr ⟨hkd, hs.2⟩), cal_s, if_pos rfl]
          · show f_X5_name M 91 (nI i) a (nI k) = _
            unfold f_X5_name
            rw [bnd_s, yk, cal_s, if_neg (by decide), f_in, cal_s, i64_toInt, t6_1, t6_8, if_pos hr, if_neg (by decide), f_zero0 hk hz, cal_s, if_pos rfl, rf_91_3, chk_n _ (show i < ln 92 by rw [ln_92]; omega) (by decide), nI_clamp (by omega), sI_ne (by omega), if_neg hkd, if_pos ((slash_iff a).mpr hs.2)]
        · have hfit : f_X4_fitsName M (M.1 92 i) a (nI k) = some (1, M) := f_fit1 hk1 hk hz (by
            by_cases q : byv a 0 = 47
            · refine Or.inl (Int32.toInt_inj.mp ?_)
              by_cases q2 : (M.1 92 i).toInt = 2
              · rw [q2]; rfl
              · exact absurd ⟨q2, q⟩ hs
            · exact Or.inr q)
          -- the reference comes to its length's test
          have hyA : ∀ M', (∀ b j, 91 ≤ b → M'.1 b j = M.1 b j) → f_X5_name M' 91 (nI i) a (nI k) = j_X5_name_63 91 (nI i) a (nI k) (sI M' 91 0 0) := by
            intro M' hM'
            unfold f_X5_name
            rw [bnd_s, yk1 (M := sI M' 91 0 0) hn (by rw [sI_ne (by omega), hM' _ _ (by omega)]; exact hi.yn) hin, cal_s, if_neg (by decide), f_in, cal_s, i64_toInt, t6_1, t6_8, if_pos hr, if_neg (by decide), f_zero0 hk hz, cal_s, if_pos rfl, rf_91_3, chk_n _ (show i < ln 92 by rw [ln_92]; omega) (by decide), nI_clamp (by omega), sI_ne (by omega), hM' _ _ (by omega)]
            by_cases q : M.1 92 i = 2
            · rw [if_pos q]
            · rw [if_neg q, if_neg]
              intro q2
              exact hs ⟨fun q3 => q (Int32.toInt_inj.mp (by rw [q3]; rfl)), (slash_iff a).mp q2⟩
          by_cases hf : nl + k ≤ 16
          · by_cases hkd : M.1 92 i = 2
            · -- a folder: the slash stays behind
              obtain ⟨M1, hM1⟩ : ∃ M1, M1 = sI (sI (wrX M (20 + 6 * i) (nl - 1) a k k) (19 + 6 * i) 7 (nI (nl + k))) (20 + 6 * i) (nl + k - 1) 47 := ⟨_, rfl⟩
              have m1 : ∀ b j, 91 ≤ b → M1.1 b j = M.1 b j := fun b j hb => by rw [hM1, sI_ne (by omega), sI_ne (by omega), wrX_ne k (by omega)]
              obtain ⟨B0, hB0⟩ : ∃ B0, B0 = sI M1 91 0 0 := ⟨_, rfl⟩
              have b0 : ∀ b j, 92 ≤ b → B0.1 b j = M.1 b j := fun b j hb => by rw [hB0, sI_ne (by omega), m1 _ _ (by omega)]
              have b95 := (b0 95 i (by omega)).trans g5
              have b92 := (b0 92 i (by omega)).trans hkd
              refine ⟨nI (nl + k), M1, sI (sI (wrY B0 94 (16 * i + (nl - 1)) a k k) 95 i (nI (nl + k))) 94 (16 * i + (nl + k) - 1) 47, ?_, ?_, ?_⟩
              · show f_X4_name M 0 (nI i) a (nI k) = _
                unfold f_X4_name f_X0_lengthenName j_X0_lengthenName_13
                rw [hu, cal_s, if_pos rfl, rf_0_0, chk_n _ (show i < ln 1 by rw [ln_1]; omega) (by decide), bndV_s, nI_clamp (by omega), rf_E, hxk, hfit, cal_s, if_neg (by decide), hxk, if_pos hkd]
                rw [hx7, nI_add, if_pos (show nI (nl + k) ≤ (16 : Int32) from nI_le (b := 16) hf (by decide)), su_1 g1]
                simp (disch := omega) only [cal_s, bnd_s, rf_e0, f_spr, wrX_ne, hx7, nI_add, sI_eq, su_1, chk_n, ln_e0, nI_clamp, b47]
                rw [if_pos trivial, if_neg (show ¬ (16 : Int32) < nI (nl + k) from nI_nlt (a := 16) hf (by decide))]
                simp (disch := omega) only [cal_s, sI_ne, sI_eq, hM1]
              · show f_X5_name M1 91 (nI i) a (nI k) = _
                rw [hyA M1 m1, ← hB0]
                unfold j_X5_name_63
                rw [rf_91_6, rf_91_3, nI_clamp (by omega), b95, b92, chk_n _ (show i < ln 95 by rw [ln_95]; omega) (by decide), nI_add, if_pos (show nI (nl + k) ≤ (16 : Int32) from nI_le (b := 16) hf (by decide)), chk_n _ (show i < ln 95 by rw [ln_95]; omega) (by decide), chk_n _ (show i < ln 92 by rw [ln_92]; omega) (by decide), if_pos rfl]
                unfold j_X5_name_101
                rw [bndV_s, su_1 g1]
                unfold l_X5_name_107
                refine lp_for _ (fun j => wrY B0 94 (16 * i + (nl - 1)) a k j) k _ (fun kb j hj => ?_) (fun kb => ?_) FU 0 (by omega) (by unfold FU; omega)
                · show g_X5_name_107 _ kb 91 (nI i) a (nI k) (nI (nl - 1)) (nI j) _ = _
                  unfold g_X5_name_107
                  rw [if_neg (nI_ge hj (by omega)), f_byt a hk hj]
                  simp (disch := omega) only [cal_s, bnd_s, bndV_s, chZ_0, chZ_1, rf_0_0, rf_0_1, rf_0_2, rf_0_3, rf_2_0, rf_4_0, rf_4_1, rf_91_3, rf_91_4, rf_91_5, rf_91_6, rf_91_7, rf_91_8, rf_91_9, rf_91_10, rf_91_11, rf_91_12, rf_91_13, rf_91_14, rf_91_15, rf_91_16, rf_91_17, rf_91_18, rf_91_19, rf_91_20, rf_91_21, rf_91_23, rf_91_33, rf_91_42, rf_91_43, rf_E, rf_R, rf_e0, rf_e1, rf_e2, rf_e3, rf_e4, ln_e0, ln_e1, ln_e2, ln_e3, ln_e4, mu_16, mu_40, mu_3, mu_8, um_8, nI_add, nI_1, chk_n, ln_1, ln_3, ln_5, ln_18, ln_92, ln_93, ln_94, ln_95, ln_96, ln_97, ln_98, ln_99, ln_100, ln_101, ln_102, ln_103, ln_104, ln_105, ln_106, ln_107, ln_108, ln_109, ln_110, ln_111, ln_112, ln_113, ln_114, nI_clamp, sI_ne, sI_eq, ltc, lec, eqc, t3_m306674912, t3_m30, t3_m10, t3_m5, t3_m4, t3_m3, t3_m2, t3_m1, t3_0, t3_1, t3_2, t3_3, t3_4, t3_5, t3_6, t3_7, t3_8, t3_9, t3_10, t3_11, t3_12, t3_13, t3_14, t3_15, t3_16, t3_17, t3_18, t3_19, t3_20, t3_22, t3_24, t3_26, t3_28, t3_30, t3_31, t3_32, t3_38, t3_40, t3_42, t3_46, t3_47, t3_60, t3_92, t3_255, t3_512, t3_1980, t3_2000, t3_2048, t3_2107, t3_3600, t3_65535, t3_86399, t3_1000000, t6_m3, t6_m2, t6_0, t6_1, t6_2, t6_8, t6_12, t6_16, t6_20, t6_30, t6_31, t6_40, t6_45, t6_47, t6_255, t6_1980, t6_2107, t6_65535, t6_86399, t6_1000000, t6_33639248, t6_67324752, t6_101010256, t6_134695760, t6_4294967295, nI_toInt, i64_toInt, f_in, if_pos, if_neg, if_true, if_false]
                  rfl
                · show g_X5_name_107 _ kb 91 (nI i) a (nI k) (nI (nl - 1)) (nI k) _ = _
                  unfold g_X5_name_107
                  rw [if_pos (nI_le (Nat.le_refl k) (by omega))]
                  unfold j_X5_name_184
                  simp (disch := omega) only [rf_91_6, rf_91_3, rf_91_5, chk_n, ln_95, ln_92, ln_94, nI_clamp, bnd_s, wrY_ne, b95, b92, sI_ne, sI_eq, nI_add, mu_16, su_1, if_true]
              · have hX : WX ((94, 16 * i + (nl + k) - 1, nI 47) :: (95, i, nI (nl + k)) :: wl 94 (16 * i + (nl - 1)) a k k) M M1 := by
                  rw [hM1]
                  have h3 := (wrX_w (M := M) (x := 20 + 6 * i) (y := nl - 1) (r := 94) (q := 16 * i + (nl - 1)) (a := a) (n := k) (by unfold byr; omega) k (fun j hj => ⟨by rw [Nat.add_assoc]; exact vd_l (by omega) (by omega), by rw [Nat.add_assoc]; exact loc_l (by omega)⟩)).cons (a0 := 95) (k0 := i) (vd_s (by omega) (by omega)) (v := nI (nl + k)) (msk_id (by omega))
                  have e3 : 16 * i + (nl + k) - 1 = 16 * i + (nl + k - 1) := by omega
                  have h4 := h3.cons (a0 := 94) (k0 := 16 * i + (nl + k - 1)) (vd_l (by omega) (by omega)) (v := 47) m47
                  rw [loc_l (by omega), ← e3] at h4
                  exact h4
                have hY : WY ((94, 16 * i + (nl + k) - 1, nI 47) :: (95, i, nI (nl + k)) :: wl 94 (16 * i + (nl - 1)) a k k) M1 (sI (sI (wrY B0 94 (16 * i + (nl - 1)) a k k) 95 i (nI (nl + k))) 94 (16 * i + (nl + k) - 1) 47) := by
                  have h3 := (WY.nil (M := M1)).scr (x := 91) (y := 0) (v := 0) (by omega)
                  rw [← hB0] at h3
                  have h4 := ((h3.trans (wrY_w (M := B0) (r := 94) (q := 16 * i + (nl - 1)) (a := a) (n := k) (by omega) k)).cons (a0 := 95) (k0 := i) (w := nI (nl + k)) (by omega)).cons (a0 := 94) (k0 := 16 * i + (nl + k) - 1) (w := nI 47) (by omega)
                  rw [List.append_nil] at h4
                  exact h4
                have hm : ∀ w ∈ (94, 16 * i + (nl + k) - 1, nI 47) :: (95, i, nI (nl + k)) :: wl 94 (16 * i + (nl - 1)) a k k, (w.1 = 94 ∧ isB w.2.2) ∨ (w.1 = 95 ∧ w.2.1 = i) := by
                  intro w hw
                  rcases List.mem_cons.mp hw with e | hw
                  · subst e; exact Or.inl ⟨rfl, ⟨47, by decide, rfl⟩⟩
                  · rcases List.mem_cons.mp hw with e | hw
                    · subst e; exact Or.inr ⟨rfl, rfl⟩
                    · exact Or.inl ⟨(wl_mem k hw).1, (wl_mem k hw).2.2.2⟩
                have hxb : XB (sI (sI (wrY B0 94 (16 * i + (nl - 1)) a k k) 95 i (nI (nl + k))) 94 (16 * i + (nl + k) - 1) 47) := by
                  rw [hB0, hM1]
                  exact ((wrY_xb ((((wrX_xb hi.xb k).up (by omega)).upb b47b).up (by omega)) (by omega) k).up (by omega)).up (by omega)
                refine ⟨n, z, c, WXY.iv hX hY hi hxb (fun w hw q => by have := hm w hw; omega) (fun w hw q => by have := hm w hw; omega) (fun w hw q => ?_) (fun w hw q => by have := hm w hw; omega) (fun j hj hE => ?_)⟩
                · rcases hm w hw with h | h
                  · exact h.2
                  · unfold byr at q; omega
                · by_cases hji : j = i
                  · subst hji
                    have key : ∀ b q : Nat, b ≠ 94 → b ≠ 95 → ups ((94, 16 * j + (nl + k) - 1, nI 47) :: (95, j, nI (nl + k)) :: wl 94 (16 * j + (nl - 1)) a k k) M.1 b q = M.1 b q := fun b q c1 c2 => ups_no (fun w hw e => by have := hm w hw; omega)
                    refine ⟨nl + k, dl, pc, by omega, hf, g3, g4, ?_, ?_⟩
                    · simp (disch := omega) only [ups, if_neg, and_self, if_true]
                    · rw [key _ _ (by omega) (by omega), key _ _ (by omega) (by omega), key _ _ (by omega) (by omega), key _ _ (by omega) (by omega), key _ _ (by omega) (by omega), key _ _ (by omega) (by omega), key _ _ (by omega) (by omega)]
                      refine ⟨g6, g7, g8, g9, g10, g11, g12, g13, fun p hp => ?_⟩
                      rw [key _ _ (by omega) (by omega)]
                      exact g14 p hp
                  · exact hE.ups (fun w hw q => by have := hm w hw; omega) (fun w hw q => by have := hm w hw; omega)
            · -- no folder
              obtain ⟨M1, hM1⟩ : ∃ M1, M1 = sI (wrX M (20 + 6 * i) nl a k k) (19 + 6 * i) 7 (nI (nl + k)) := ⟨_, rfl⟩
              have m1 : ∀ b j, 91 ≤ b → M1.1 b j = M.1 b j := fun b j hb => by rw [hM1, sI_ne (by omega), wrX_ne k (by omega)]
              obtain ⟨B0, hB0⟩ : ∃ B0, B0 = sI M1 91 0 0 := ⟨_, rfl⟩
              have b0 : ∀ b j, 92 ≤ b → B0.1 b j = M.1 b j := fun b j hb => by rw [hB0, sI_ne (by omega), m1 _ _ (by omega)]
              have b95 := (b0 95 i (by omega)).trans g5
              have b92 := b0 92 i (by omega)
              refine ⟨nI (nl + k), M1, sI (wrY B0 94 (16 * i + nl) a k k) 95 i (nI (nl + k)), ?_, ?_, ?_⟩
              · show f_X4_name M 0 (nI i) a (nI k) = _
                unfold f_X4_name f_X0_lengthenName j_X0_lengthenName_13
                rw [hu, cal_s, if_pos rfl, rf_0_0, chk_n _ (show i < ln 1 by rw [ln_1]; omega) (by decide), bndV_s, nI_clamp (by omega), rf_E, hxk, hfit, cal_s, if_neg (by decide), hxk, if_neg hkd]
                rw [hx7, nI_add, if_pos (show nI (nl + k) ≤ (16 : Int32) from nI_le (b := 16) hf (by decide)), show nI nl - (0 : Int32) = nI nl from pk_sub (b := 0) (by omega)]
                simp (disch := omega) only [cal_s, bnd_s, rf_e0, f_spr, wrX_ne, hx7, nI_add, sI_eq]
                rw [if_neg (by decide), cal_s, sI_eq, hM1]
              · show f_X5_name M1 91 (nI i) a (nI k) = _
                rw [hyA M1 m1, ← hB0]
                unfold j_X5_name_63
                rw [rf_91_6, rf_91_3, nI_clamp (by omega), b95, b92, chk_n _ (show i < ln 95 by rw [ln_95]; omega) (by decide), nI_add, if_pos (show nI (nl + k) ≤ (16 : Int32) from nI_le (b := 16) hf (by decide)), chk_n _ (show i < ln 95 by rw [ln_95]; omega) (by decide), chk_n _ (show i < ln 92 by rw [ln_92]; omega) (by decide), if_neg hkd]
                unfold j_X5_name_101
                rw [bndV_s, show nI nl - (0 : Int32) = nI nl from pk_sub (b := 0) (by omega)]
                unfold l_X5_name_107
                refine lp_for _ (fun j => wrY B0 94 (16 * i + nl) a k j) k _ (fun kb j hj => ?_) (fun kb => ?_) FU 0 (by omega) (by unfold FU; omega)
                · show g_X5_name_107 _ kb 91 (nI i) a (nI k) (nI nl) (nI j) _ = _
                  unfold g_X5_name_107
                  rw [if_neg (nI_ge hj (by omega)), f_byt a hk hj]
                  simp (disch := omega) only [cal_s, bnd_s, bndV_s, chZ_0, chZ_1, rf_0_0, rf_0_1, rf_0_2, rf_0_3, rf_2_0, rf_4_0, rf_4_1, rf_91_3, rf_91_4, rf_91_5, rf_91_6, rf_91_7, rf_91_8, rf_91_9, rf_91_10, rf_91_11, rf_91_12, rf_91_13, rf_91_14, rf_91_15, rf_91_16, rf_91_17, rf_91_18, rf_91_19, rf_91_20, rf_91_21, rf_91_23, rf_91_33, rf_91_42, rf_91_43, rf_E, rf_R, rf_e0, rf_e1, rf_e2, rf_e3, rf_e4, ln_e0, ln_e1, ln_e2, ln_e3, ln_e4, mu_16, mu_40, mu_3, mu_8, um_8, nI_add, nI_1, chk_n, ln_1, ln_3, ln_5, ln_18, ln_92, ln_93, ln_94, ln_95, ln_96, ln_97, ln_98, ln_99, ln_100, ln_101, ln_102, ln_103, ln_104, ln_105, ln_106, ln_107, ln_108, ln_109, ln_110, ln_111, ln_112, ln_113, ln_114, nI_clamp, sI_ne, sI_eq, ltc, lec, eqc, t3_m306674912, t3_m30, t3_m10, t3_m5, t3_m4, t3_m3, t3_m2, t3_m1, t3_0, t3_1, t3_2, t3_3, t3_4, t3_5, t3_6, t3_7, t3_8, t3_9, t3_10, t3_11, t3_12, t3_13, t3_14, t3_15, t3_16, t3_17, t3_18, t3_19, t3_20, t3_22, t3_24, t3_26, t3_28, t3_30, t3_31, t3_32, t3_38, t3_40, t3_42, t3_46, t3_47, t3_60, t3_92, t3_255, t3_512, t3_1980, t3_2000, t3_2048, t3_2107, t3_3600, t3_65535, t3_86399, t3_1000000, t6_m3, t6_m2, t6_0, t6_1, t6_2, t6_8, t6_12, t6_16, t6_20, t6_30, t6_31, t6_40, t6_45, t6_47, t6_255, t6_1980, t6_2107, t6_65535, t6_86399, t6_1000000, t6_33639248, t6_67324752, t6_101010256, t6_134695760, t6_4294967295, nI_toInt, i64_toInt, f_in, if_pos, if_neg, if_true, if_false]
                  rfl
                · show g_X5_name_107 _ kb 91 (nI i) a (nI k) (nI nl) (nI k) _ = _
                  unfold g_X5_name_107
                  rw [if_pos (nI_le (Nat.le_refl k) (by omega))]
                  unfold j_X5_name_184
                  simp (disch := omega) only [rf_91_6, rf_91_3, rf_91_5, chk_n, ln_95, ln_92, ln_94, nI_clamp, bnd_s, wrY_ne, b95, b92, sI_ne, sI_eq, nI_add, hkd, if_false]
              · have hX : WX ((95, i, nI (nl + k)) :: wl 94 (16 * i + nl) a k k) M M1 := by
                  rw [hM1]
                  exact (wrX_w (M := M) (x := 20 + 6 * i) (y := nl) (r := 94) (q := 16 * i + nl) (a := a) (n := k) (by unfold byr; omega) k (fun j hj => ⟨by rw [Nat.add_assoc]; exact vd_l (by omega) (by omega), by rw [Nat.add_assoc]; exact loc_l (by omega)⟩)).cons (a0 := 95) (k0 := i) (vd_s (by omega) (by omega)) (v := nI (nl + k)) (msk_id (by omega))
                have hY : WY ((95, i, nI (nl + k)) :: wl 94 (16 * i + nl) a k k) M1 (sI (wrY B0 94 (16 * i + nl) a k k) 95 i (nI (nl + k))) := by
                  have h3 := (WY.nil (M := M1)).scr (x := 91) (y := 0) (v := 0) (by omega)
                  rw [← hB0] at h3
                  have h4 := ((h3.trans (wrY_w (M := B0) (r := 94) (q := 16 * i + nl) (a := a) (n := k) (by omega) k)).cons (a0 := 95) (k0 := i) (w := nI (nl + k)) (by omega))
                  rw [List.append_nil] at h4
                  exact h4
                have hm : ∀ w ∈ (95, i, nI (nl + k)) :: wl 94 (16 * i + nl) a k k, (w.1 = 94 ∧ isB w.2.2) ∨ (w.1 = 95 ∧ w.2.1 = i) := by
                  intro w hw
                  rcases List.mem_cons.mp hw with e | hw
                  · subst e; exact Or.inr ⟨rfl, rfl⟩
                  · exact Or.inl ⟨(wl_mem k hw).1, (wl_mem k hw).2.2.2⟩
                have hxb : XB (sI (wrY B0 94 (16 * i + nl) a k k) 95 i (nI (nl + k))) := by
                  rw [hB0, hM1]
                  exact (wrY_xb (((wrX_xb hi.xb k).up (by omega)).up (by omega)) (by omega) k).up (by omega)
                refine ⟨n, z, c, WXY.iv hX hY hi hxb (fun w hw q => by have := hm w hw; omega) (fun w hw q => by have := hm w hw; omega) (fun w hw q => ?_) (fun w hw q => by have := hm w hw; omega) (fun j hj hE => ?_)⟩
                · rcases hm w hw with h | h
                  · exact h.2
                  · unfold byr at q; omega
                · by_cases hji : j = i
                  · subst hji
                    have key : ∀ b q : Nat, b ≠ 94 → b ≠ 95 → ups ((95, j, nI (nl + k)) :: wl 94 (16 * j + nl) a k k) M.1 b q = M.1 b q := fun b q c1 c2 => ups_no (fun w hw e => by have := hm w hw; omega)
                    refine ⟨nl + k, dl, pc, by omega, hf, g3, g4, ?_, ?_⟩
                    · simp (disch := omega) only [ups, if_neg, and_self, if_true]
                    · rw [key _ _ (by omega) (by omega), key _ _ (by omega) (by omega), key _ _ (by omega) (by omega), key _ _ (by omega) (by omega), key _ _ (by omega) (by omega), key _ _ (by omega) (by omega), key _ _ (by omega) (by omega)]
                      refine ⟨g6, g7, g8, g9, g10, g11, g12, g13, fun p hp => ?_⟩
                      rw [key _ _ (by omega) (by omega)]
                      exact g14 p hp
                  · exact hE.ups (fun w hw q => by have := hm w hw; omega) (fun w hw q => by have := hm w hw; omega)
          · refine OP.read (r := -5) hi ?_ ?_
            · show f_X4_name M 0 (nI i) a (nI k) = _
              unfold f_X4_name
              rw [hu, cal_s, if_pos rfl, rf_0_0, chk_n _ (show i < ln 1 by rw [ln_1]; omega) (by decide), bndV_s, nI_clamp (by omega), rf_E, hxk, hfit, cal_s, if_neg (by decide), hx7, nI_add, if_neg (show ¬ nI (nl + k) ≤ (16 : Int32) from nI_ge (a := 16) (by omega) (by omega))]
            · show f_X5_name M 91 (nI i) a (nI k) = _
              rw [hyA M (fun _ _ _ => rfl)]
              unfold j_X5_name_63
              rw [rf_91_6, nI_clamp (by omega), sI_ne (by omega), g5, chk_n _ (show i < ln 95 by rw [ln_95]; omega) (by decide), nI_add, if_neg (show ¬ nI (nl + k) ≤ (16 : Int32) from nI_ge (a := 16) (by omega) (by omega))]
    · refine OP.read (r := -3) hi ?_ ?_
      · show f_X4_name M 0 (nI i) a y = _
        unfold f_X4_name
        rw [hu, cal_s, if_pos rfl, rf_0_0, chk_n _ (show i < ln 1 by rw [ln_1]; omega) (by decide), bndV_s, f_fitR hr, cal_s, if_pos rfl]
      · show f_X5_name M 91 (nI i) a y = _
        unfold f_X5_name
        rw [bnd_s, yk, cal_s, if_neg (by decide), f_in, cal_s, i64_toInt, t6_1, t6_8, if_neg hr, if_pos rfl]
  · refine OP.read (r := -2) hi ?_ ?_
    · show f_X4_name M 0 x a y = _
      unfold f_X4_name
      rw [xk0 hi he, cal_s, if_neg (by decide)]
    · show f_X5_name M 91 x a y = _
      unfold f_X5_name
      rw [bnd_s, yk0 (M := sI M 91 0 0) hn hy0 he, cal_s, if_pos rfl]
