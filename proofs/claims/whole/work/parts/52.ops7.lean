theorem vd_p {i k : Nat} (hi : i < 12) (hk : k < 24) : vd 102 (24 * i + k) := Or.inr ⟨by omega, by omega, show 24 * i + k < 288 by omega⟩
theorem loc_p {i k : Nat} (hk : k < 24) : loc 102 (24 * i + k) = (24 + 6 * i, k) := by
  show (24 + 6 * ((24 * i + k) / 24), (24 * i + k) % 24) = _
  rw [show (24 * i + k) / 24 = i by omega, show (24 * i + k) % 24 = k by omega]
theorem vd_3 {a i k : Nat} (ha : a = 100 ∨ a = 101) (hi : i < 12) (hk : k < 3) : vd a (3 * i + k) := by
  rcases ha with q | q <;> subst q
  · exact Or.inr ⟨by omega, by omega, show 3 * i + k < 36 by omega⟩
  · exact Or.inr ⟨by omega, by omega, show 3 * i + k < 36 by omega⟩
theorem loc_3 {i k : Nat} (hk : k < 3) : loc 100 (3 * i + k) = (22 + 6 * i, k) ∧ loc 101 (3 * i + k) = (23 + 6 * i, k) := by
  refine ⟨?_, ?_⟩
  · show (22 + 6 * ((3 * i + k) / 3), (3 * i + k) % 3) = _
    rw [show (3 * i + k) / 3 = i by omega, show (3 * i + k) % 3 = k by omega]
  · show (23 + 6 * ((3 * i + k) / 3), (3 * i + k) % 3) = _
    rw [show (3 * i + k) / 3 = i by omega, show (3 * i + k) % 3 = k by omega]
theorem op_part {M : Me} (h : INV M) (x id : Int32) (a : Int64) (y : Int32) : OP (fun M => f_X4_part M 0 x id a y) (fun M => f_X5_part M 91 x id a y) M := by
  obtain ⟨n, z, c, hi⟩ := h
  have hn := hi.1.1
  have hy0 := yn0 hi
  by_cases he : ∃ i, i < n ∧ x = nI i
  · obtain ⟨i, hin, e⟩ := he
    subst e
    have hu := xk1 hi hin
    obtain ⟨nl, dl, pc, g1, g2, g3, g4, g5, g6, g7, g8, g9, g10, g11, g12, g13, g14⟩ := hi.2.2.1 i hin
    have hx9 := hi.x9 hin
    rw [g7] at hx9
    have hl4 := ln_e4 (i := i) (by omega)
    by_cases hr : (2 ≤ id.toInt ∧ id.toInt ≤ 65535) ∧ 0 ≤ y.toInt ∧ y.toInt ≤ 8
    · obtain ⟨k, e, h1, h2⟩ := nI_ofR hr.2.1 (by omega) hr.2.2
      subst e
      have hk : k ≤ 8 := by omega
      by_cases hf : pc < 3
      · obtain ⟨M1, hM1⟩ : ∃ M1, M1 = sI (wrX (sI (sI M (22 + 6 * i) pc id) (23 + 6 * i) pc (nI k)) (24 + 6 * i) (pc * 8) a k k) (19 + 6 * i) 9 (nI (pc + 1)) := ⟨_, rfl⟩
        have m1 : ∀ b j, 91 ≤ b → M1.1 b j = M.1 b j := fun b j hb => by rw [hM1, sI_ne (by omega), wrX_ne k (by omega), sI_ne (by omega), sI_ne (by omega)]
        obtain ⟨B0, hB0⟩ : ∃ B0, B0 = sI (sI (sI M1 91 0 0) 100 (3 * i + pc) id) 101 (3 * i + pc) (nI k) := ⟨_, rfl⟩
        have b0 : B0.1 99 i = nI pc := by rw [hB0, sI_ne (by omega), sI_ne (by omega), sI_ne (by omega), m1 _ _ (by omega)]; exact g7
        refine ⟨nI (pc + 1), M1, sI (wrY B0 102 (8 * (3 * i + pc)) a k k) 99 i (nI (pc + 1)), ?_, ?_, ?_⟩
        · show f_X4_part M 0 (nI i) id a (nI k) = _
          unfold f_X4_part
          rw [hu, cal_s, if_pos rfl, hM1]
          simp (disch := omega) only [cal_s, bnd_s, bndV_s, chZ_0, chZ_1, rf_0_0, rf_0_1, rf_0_2, rf_0_3, rf_2_0, rf_4_0, rf_4_1, rf_91_3, rf_91_4, rf_91_5, rf_91_6, rf_91_7, rf_91_8, rf_91_9, rf_91_10, rf_91_11, rf_91_12, rf_91_13, rf_91_14, rf_91_15, rf_91_16, rf_91_17, rf_91_18, rf_91_19, rf_91_20, rf_91_21, rf_91_23, rf_91_33, rf_91_42, rf_91_43, rf_E, rf_R, rf_e0, rf_e1, rf_e2, rf_e3, rf_e4, ln_e0, ln_e1, ln_e2, ln_e3, ln_e4, mu_16, mu_40, mu_3, mu_8, um_8, nI_add, nI_1, chk_n, ln_1, ln_3, ln_5, ln_18, ln_92, ln_93, ln_94, ln_95, ln_96, ln_97, ln_98, ln_99, ln_100, ln_101, ln_102, ln_103, ln_104, ln_105, ln_106, ln_107, ln_108, ln_109, ln_110, ln_111, ln_112, ln_113, ln_114, nI_clamp, sI_ne, sI_eq, ltc, lec, eqc, t3_m306674912, t3_m30, t3_m10, t3_m5, t3_m4, t3_m3, t3_m2, t3_m1, t3_0, t3_1, t3_2, t3_3, t3_4, t3_5, t3_6, t3_7, t3_8, t3_9, t3_10, t3_11, t3_12, t3_13, t3_14, t3_15, t3_16, t3_17, t3_18, t3_19, t3_20, t3_22, t3_24, t3_26, t3_28, t3_30, t3_31, t3_32, t3_38, t3_40, t3_42, t3_46, t3_47, t3_60, t3_92, t3_255, t3_512, t3_1980, t3_2000, t3_2048, t3_2107, t3_3600, t3_65535, t3_86399, t3_1000000, t6_m3, t6_m2, t6_0, t6_1, t6_2, t6_8, t6_12, t6_16, t6_20, t6_30, t6_31, t6_40, t6_45, t6_47, t6_255, t6_1980, t6_2107, t6_65535, t6_86399, t6_1000000, t6_33639248, t6_67324752, t6_101010256, t6_134695760, t6_4294967295, nI_toInt, i64_toInt, f_in, if_pos, if_neg, if_true, if_false, hx9, f_spr, wrX_ne]
        · show f_X5_part M1 91 (nI i) id a (nI k) = _
          unfold f_X5_part
          rw [bnd_s, yk1 (M := sI M1 91 0 0) hn (by rw [sI_ne (by omega), m1 _ _ (by omega)]; exact hi.yn) hin, cal_s, if_neg (by decide)]
          simp (disch := omega) only [cal_s, bnd_s, bndV_s, chZ_0, chZ_1, rf_0_0, rf_0_1, rf_0_2, rf_0_3, rf_2_0, rf_4_0, rf_4_1, rf_91_3, rf_91_4, rf_91_5, rf_91_6, rf_91_7, rf_91_8, rf_91_9, rf_91_10, rf_91_11, rf_91_12, rf_91_13, rf_91_14, rf_91_15, rf_91_16, rf_91_17, rf_91_18, rf_91_19, rf_91_20, rf_91_21, rf_91_23, rf_91_33, rf_91_42, rf_91_43, rf_E, rf_R, rf_e0, rf_e1, rf_e2, rf_e3, rf_e4, ln_e0, ln_e1, ln_e2, ln_e3, ln_e4, mu_16, mu_40, mu_3, mu_8, um_8, nI_add, nI_1, chk_n, ln_1, ln_3, ln_5, ln_18, ln_92, ln_93, ln_94, ln_95, ln_96, ln_97, ln_98, ln_99, ln_100, ln_101, ln_102, ln_103, ln_104, ln_105, ln_106, ln_107, ln_108, ln_109, ln_110, ln_111, ln_112, ln_113, ln_114, nI_clamp, sI_ne, sI_eq, ltc, lec, eqc, t3_m306674912, t3_m30, t3_m10, t3_m5, t3_m4, t3_m3, t3_m2, t3_m1, t3_0, t3_1, t3_2, t3_3, t3_4, t3_5, t3_6, t3_7, t3_8, t3_9, t3_10, t3_11, t3_12, t3_13, t3_14, t3_15, t3_16, t3_17, t3_18, t3_19, t3_20, t3_22, t3_24, t3_26, t3_28, t3_30, t3_31, t3_32, t3_38, t3_40, t3_42, t3_46, t3_47, t3_60, t3_92, t3_255, t3_512, t3_1980, t3_2000, t3_2048, t3_2107, t3_3600, t3_65535, t3_86399, t3_1000000, t6_m3, t6_m2, t6_0, t6_1, t6_2, t6_8, t6_12, t6_16, t6_20, t6_30, t6_31, t6_40, t6_45, t6_47, t6_255, t6_1980, t6_2107, t6_65535, t6_86399, t6_1000000, t6_33639248, t6_67324752, t6_101010256, t6_134695760, t6_4294967295, nI_toInt, i64_toInt, f_in, if_pos, if_neg, if_true, if_false, m1, g7, ← hB0]
          unfold l_X5_part_91
          refine lp_for _ (fun j => wrY B0 102 (8 * (3 * i + pc)) a k j) k _ (fun kb j hj => ?_) (fun kb => ?_) FU 0 (by omega) (by unfold FU; omega)
          · show g_X5_part_91 _ kb 91 (nI i) a (nI k) (nI (3 * i + pc)) (nI j) _ = _
            unfold g_X5_part_91
            rw [if_neg (nI_ge hj (by omega)), f_byt a hk hj]
            simp (disch := omega) only [cal_s, bnd_s, bndV_s, chZ_0, chZ_1, rf_0_0, rf_0_1, rf_0_2, rf_0_3, rf_2_0, rf_4_0, rf_4_1, rf_91_3, rf_91_4, rf_91_5, rf_91_6, rf_91_7, rf_91_8, rf_91_9, rf_91_10, rf_91_11, rf_91_12, rf_91_13, rf_91_14, rf_91_15, rf_91_16, rf_91_17, rf_91_18, rf_91_19, rf_91_20, rf_91_21, rf_91_23, rf_91_33, rf_91_42, rf_91_43, rf_E, rf_R, rf_e0, rf_e1, rf_e2, rf_e3, rf_e4, ln_e0, ln_e1, ln_e2, ln_e3, ln_e4, mu_16, mu_40, mu_3, mu_8, um_8, nI_add, nI_1, chk_n, ln_1, ln_3, ln_5, ln_18, ln_92, ln_93, ln_94, ln_95, ln_96, ln_97, ln_98, ln_99, ln_100, ln_101, ln_102, ln_103, ln_104, ln_105, ln_106, ln_107, ln_108, ln_109, ln_110, ln_111, ln_112, ln_113, ln_114, nI_clamp, sI_ne, sI_eq, ltc, lec, eqc, t3_m306674912, t3_m30, t3_m10, t3_m5, t3_m4, t3_m3, t3_m2, t3_m1, t3_0, t3_1, t3_2, t3_3, t3_4, t3_5, t3_6, t3_7, t3_8, t3_9, t3_10, t3_11, t3_12, t3_13, t3_14, t3_15, t3_16, t3_17, t3_18, t3_19, t3_20, t3_22, t3_24, t3_26, t3_28, t3_30, t3_31, t3_32, t3_38, t3_40, t3_42, t3_46, t3_47, t3_60, t3_92, t3_255, t3_512, t3_1980, t3_2000, t3_2048, t3_2107, t3_3600, t3_65535, t3_86399, t3_1000000, t6_m3, t6_m2, t6_0, t6_1, t6_2, t6_8, t6_12, t6_16, t6_20, t6_30, t6_31, t6_40, t6_45, t6_47, t6_255, t6_1980, t6_2107, t6_65535, t6_86399, t6_1000000, t6_33639248, t6_67324752, t6_101010256, t6_134695760, t6_4294967295, nI_toInt, i64_toInt, f_in, if_pos, if_neg, if_true, if_false, wrY_ne]
            rfl
          · show g_X5_part_91 _ kb 91 (nI i) a (nI k) (nI (3 * i + pc)) (nI k) _ = _
            unfold g_X5_part_91
            rw [if_pos (nI_le (Nat.le_refl k) (by omega))]
            simp (disch := omega) only [cal_s, bnd_s, bndV_s, chZ_0, chZ_1, rf_0_0, rf_0_1, rf_0_2, rf_0_3, rf_2_0, rf_4_0, rf_4_1, rf_91_3, rf_91_4, rf_91_5, rf_91_6, rf_91_7, rf_91_8, rf_91_9, rf_91_10, rf_91_11, rf_91_12, rf_91_13, rf_91_14, rf_91_15, rf_91_16, rf_91_17, rf_91_18, rf_91_19, rf_91_20, rf_91_21, rf_91_23, rf_91_33, rf_91_42, rf_91_43, rf_E, rf_R, rf_e0, rf_e1, rf_e2, rf_e3, rf_e4, ln_e0, ln_e1, ln_e2, ln_e3, ln_e4, mu_16, mu_40, mu_3, mu_8, um_8, nI_add, nI_1, chk_n, ln_1, ln_3, ln_5, ln_18, ln_92, ln_93, ln_94, ln_95, ln_96, ln_97, ln_98, ln_99, ln_100, ln_101, ln_102, ln_103, ln_104, ln_105, ln_106, ln_107, ln_108, ln_109, ln_110, ln_111, ln_112, ln_113, ln_114, nI_clamp, sI_ne, sI_eq, ltc, lec, eqc, t3_m306674912, t3_m30, t3_m10, t3_m5, t3_m4, t3_m3, t3_m2, t3_m1, t3_0, t3_1, t3_2, t3_3, t3_4, t3_5, t3_6, t3_7, t3_8, t3_9, t3_10, t3_11, t3_12, t3_13, t3_14, t3_15, t3_16, t3_17, t3_18, t3_19, t3_20, t3_22, t3_24, t3_26, t3_28, t3_30, t3_31, t3_32, t3_38, t3_40, t3_42, t3_46, t3_47, t3_60, t3_92, t3_255, t3_512, t3_1980, t3_2000, t3_2048, t3_2107, t3_3600, t3_65535, t3_86399, t3_1000000, t6_m3, t6_m2, t6_0, t6_1, t6_2, t6_8, t6_12, t6_16, t6_20, t6_30, t6_31, t6_40, t6_45, t6_47, t6_255, t6_1980, t6_2107, t6_65535, t6_86399, t6_1000000, t6_33639248, t6_67324752, t6_101010256, t6_134695760, t6_4294967295, nI_toInt, i64_toInt, f_in, if_pos, if_neg, if_true, if_false, wrY_ne, b0]
        · have e24 : 8 * (3 * i + pc) = 24 * i + pc * 8 := by omega
          have hX0 : WX [(101, 3 * i + pc, nI k), (100, 3 * i + pc, id)] M (sI (sI M (22 + 6 * i) pc id) (23 + 6 * i) pc (nI k)) := by
            have h3 := (WX.nil (M := M)).cons (a0 := 100) (k0 := 3 * i + pc) (vd_3 (by omega) (by omega) hf) (v := id) (msk_id (by omega))
            rw [(loc_3 hf).1] at h3
            have h4 := h3.cons (a0 := 101) (k0 := 3 * i + pc) (vd_3 (by omega) (by omega) hf) (v := nI k) (msk_id (by omega))
            rw [(loc_3 hf).2] at h4
            exact h4
          have hX : WX ((99, i, nI (pc + 1)) :: (wl 102 (8 * (3 * i + pc)) a k k ++ [(101, 3 * i + pc, nI k), (100, 3 * i + pc, id)])) M M1 := by
            rw [hM1]
            have h3 := hX0.trans (wrX_w (M := sI (sI M (22 + 6 * i) pc id) (23 + 6 * i) pc (nI k)) (x := 24 + 6 * i) (y := pc * 8) (r := 102) (q := 8 * (3 * i + pc)) (a := a) (n := k) (by unfold byr; omega) k (fun j hj => ⟨by rw [e24, Nat.add_assoc]; exact vd_p (by omega) (by omega), by rw [e24, Nat.add_assoc]; exact loc_p (by omega)⟩))
            exact h3.cons (a0 := 99) (k0 := i) (vd_s (by omega) (by omega)) (msk_id (by omega))
          have hY : WY ((99, i, nI (pc + 1)) :: (wl 102 (8 * (3 * i + pc)) a k k ++ [(101, 3 * i + pc, nI k), (100, 3 * i + pc, id)])) M1 (sI (wrY B0 102 (8 * (3 * i + pc)) a k k) 99 i (nI (pc + 1))) := by
            have h3 := ((((WY.nil (M := M1)).scr (x := 91) (y := 0) (v := 0) (by omega)).cons (a0 := 100) (k0 := 3 * i + pc) (w := id) (by omega)).cons (a0 := 101) (k0 := 3 * i + pc) (w := nI k) (by omega))
            rw [← hB0] at h3
            exact ((h3.trans (wrY_w (M := B0) (r := 102) (q := 8 * (3 * i + pc)) (a := a) (n := k) (by omega) k)).cons (a0 := 99) (k0 := i) (w := nI (pc + 1)) (by omega))
          have hm : ∀ w ∈ wl 102 (8 * (3 * i + pc)) a k k, w.1 = 102 ∧ 8 * (3 * i + pc) ≤ w.2.1 ∧ w.2.1 < 8 * (3 * i + pc) + k ∧ isB w.2.2 := fun w hw => wl_mem k hw
          have hm2 : ∀ w ∈ (99, i, nI (pc + 1)) :: (wl 102 (8 * (3 * i + pc)) a k k ++ [(101, 3 * i + pc, nI k), (100, 3 * i + pc, id)]), (w.2.1 = i ∧ w.1 = 99) ∨ (w.1 = 102 ∧ isB w.2.2) ∨ (w.2.1 = 3 * i + pc ∧ (w.1 = 100 ∨ w.1 = 101)) := by
            intro w hw
            rcases List.mem_cons.mp hw with e | hw
            · subst e; simp
            · rcases List.mem_append.mp hw with hw | hw
              · exact Or.inr (Or.inl ⟨(hm w hw).1, (hm w hw).2.2.2⟩)
              · simp at hw; rcases hw with e | e <;> subst e <;> simp
          have hxb : XB (sI (wrY B0 102 (8 * (3 * i + pc)) a k k) 99 i (nI (pc + 1))) := by
            rw [hB0, hM1]
            exact (wrY_xb ((((((wrX_xb ((hi.xb.up (by omega)).up (by omega)) k).up (by omega)).up (by omega)).up (by omega)).up (by omega))) (by omega) k).up (by omega)
          refine ⟨n, z, c, WXY.iv hX hY hi hxb ?_ ?_ ?_ ?_ ?_⟩
          · intro w hw q; have := hm2 w hw; omega
          · intro w hw q; have := hm2 w hw; omega
          · intro w hw q
            unfold byr at q
            rcases hm2 w hw with h | h | h
            · omega
            · exact h.2
            · omega
          · intro w hw q; have := hm2 w hw; omega
          · intro j hj hE
            by_cases hji : j = i
            · subst hji
              have key : ∀ b q : Nat, b ≠ 99 → b ≠ 102 → ¬ (b = 101 ∧ q = 3 * j + pc) → b ≠ 100 → ups ((99, j, nI (pc + 1)) :: (wl 102 (8 * (3 * j + pc)) a k k ++ [(101, 3 * j + pc, nI k), (100, 3 * j + pc, id)])) M.1 b q = M.1 b q := by
                intro b q c1 c2 c3 c4
                exact ups_no (fun w hw e => by have := hm2 w hw; rcases this with h | h | h <;> omega)
              refine ⟨nl, dl, pc + 1, g1, g2, g3, by omega, ?_, ?_, ?_, ?_, ?_, ?_, ?_, ?_, ?_, ?_⟩
              · rw [key _ _ (by omega) (by omega) (by omega) (by omega)]; exact g5
              · rw [key _ _ (by omega) (by omega) (by omega) (by omega)]; exact g6
              · simp (disch := omega) only [ups, and_self, if_true]
              · rw [key _ _ (by omega) (by omega) (by omega) (by omega)]; exact g8
              · rw [key _ _ (by omega) (by omega) (by omega) (by omega)]; exact g9
              · rw [key _ _ (by omega) (by omega) (by omega) (by omega)]; exact g10
              · rw [key _ _ (by omega) (by omega) (by omega) (by omega)]; exact g11
              · rw [key _ _ (by omega) (by omega) (by omega) (by omega), key _ _ (by omega) (by omega) (by omega) (by omega)]; exact g12
              · rw [key _ _ (by omega) (by omega) (by omega) (by omega)]; exact g13
              · intro p hp
                by_cases hpp : p = pc
                · subst hpp
                  refine ⟨k, hk, ?_⟩
                  simp (disch := omega) only [ups, if_neg]
                  rw [ups_app, wl_no (by omega)]
                  simp (disch := omega) only [ups, and_self, if_true]
                · rw [key _ _ (by omega) (by omega) (by omega) (by omega)]
                  exact g14 p (by omega)
            · refine hE.ups ?_ ?_
              · intro w hw q; have := hm2 w hw; omega
              · intro w hw q; have := hm2 w hw; omega
      · have hpc : pc = 3 := by omega
        refine OP.read (r := -5) hi ?_ ?_
        · show f_X4_part M 0 (nI i) id a (nI k) = _
          unfold f_X4_part
          rw [hu, cal_s, if_pos rfl]
          simp (disch := omega) only [cal_s, bnd_s, bndV_s, chZ_0, chZ_1, rf_0_0, rf_0_1, rf_0_2, rf_0_3, rf_2_0, rf_4_0, rf_4_1, rf_91_3, rf_91_4, rf_91_5, rf_91_6, rf_91_7, rf_91_8, rf_91_9, rf_91_10, rf_91_11, rf_91_12, rf_91_13, rf_91_14, rf_91_15, rf_91_16, rf_91_17, rf_91_18, rf_91_19, rf_91_20, rf_91_21, rf_91_23, rf_91_33, rf_91_42, rf_91_43, rf_E, rf_R, rf_e0, rf_e1, rf_e2, rf_e3, rf_e4, ln_e0, ln_e1, ln_e2, ln_e3, ln_e4, mu_16, mu_40, mu_3, mu_8, um_8, nI_add, nI_1, chk_n, ln_1, ln_3, ln_5, ln_18, ln_92, ln_93, ln_94, ln_95, ln_96, ln_97, ln_98, ln_99, ln_100, ln_101, ln_102, ln_103, ln_104, ln_105, ln_106, ln_107, ln_108, ln_109, ln_110, ln_111, ln_112, ln_113, ln_114, nI_clamp, sI_ne, sI_eq, ltc, lec, eqc, t3_m306674912, t3_m30, t3_m10, t3_m5, t3_m4, t3_m3, t3_m2, t3_m1, t3_0, t3_1, t3_2, t3_3, t3_4, t3_5, t3_6, t3_7, t3_8, t3_9, t3_10, t3_11, t3_12, t3_13, t3_14, t3_15, t3_16, t3_17, t3_18, t3_19, t3_20, t3_22, t3_24, t3_26, t3_28, t3_30, t3_31, t3_32, t3_38, t3_40, t3_42, t3_46, t3_47, t3_60, t3_92, t3_255, t3_512, t3_1980, t3_2000, t3_2048, t3_2107, t3_3600, t3_65535, t3_86399, t3_1000000, t6_m3, t6_m2, t6_0, t6_1, t6_2, t6_8, t6_12, t6_16, t6_20, t6_30, t6_31, t6_40, t6_45, t6_47, t6_255, t6_1980, t6_2107, t6_65535, t6_86399, t6_1000000, t6_33639248, t6_67324752, t6_101010256, t6_134695760, t6_4294967295, nI_toInt, i64_toInt, f_in, if_pos, if_neg, if_true, if_false, hx9]
        · show f_X5_part M 91 (nI i) id a (nI k) = _
          unfold f_X5_part
          rw [bnd_s, yk1 (M := sI M 91 0 0) hn hy0 hin, cal_s, if_neg (by decide)]
          simp (disch := omega) only [cal_s, bnd_s, bndV_s, chZ_0, chZ_1, rf_0_0, rf_0_1, rf_0_2, rf_0_3, rf_2_0, rf_4_0, rf_4_1, rf_91_3, rf_91_4, rf_91_5, rf_91_6, rf_91_7, rf_91_8, rf_91_9, rf_91_10, rf_91_11, rf_91_12, rf_91_13, rf_91_14, rf_91_15, rf_91_16, rf_91_17, rf_91_18, rf_91_19, rf_91_20, rf_91_21, rf_91_23, rf_91_33, rf_91_42, rf_91_43, rf_E, rf_R, rf_e0, rf_e1, rf_e2, rf_e3, rf_e4, ln_e0, ln_e1, ln_e2, ln_e3, ln_e4, mu_16, mu_40, mu_3, mu_8, um_8, nI_add, nI_1, chk_n, ln_1, ln_3, ln_5, ln_18, ln_92, ln_93, ln_94, ln_95, ln_96, ln_97, ln_98, ln_99, ln_100, ln_101, ln_102, ln_103, ln_104, ln_105, ln_106, ln_107, ln_108, ln_109, ln_110, ln_111, ln_112, ln_113, ln_114, nI_clamp, sI_ne, sI_eq, ltc, lec, eqc, t3_m306674912, t3_m30, t3_m10, t3_m5, t3_m4, t3_m3, t3_m2, t3_m1, t3_0, t3_1, t3_2, t3_3, t3_4, t3_5, t3_6, t3_7, t3_8, t3_9, t3_10, t3_11, t3_12, t3_13, t3_14, t3_15, t3_16, t3_17, t3_18, t3_19, t3_20, t3_22, t3_24, t3_26, t3_28, t3_30, t3_31, t3_32, t3_38, t3_40, t3_42, t3_46, t3_47, t3_60, t3_92, t3_255, t3_512, t3_1980, t3_2000, t3_2048, t3_2107, t3_3600, t3_65535, t3_86399, t3_1000000, t6_m3, t6_m2, t6_0, t6_1, t6_2, t6_8, t6_12, t6_16, t6_20, t6_30, t6_31, t6_40, t6_45, t6_47, t6_255, t6_1980, t6_2107, t6_65535, t6_86399, t6_1000000, t6_33639248, t6_67324752, t6_101010256, t6_134695760, t6_4294967295, nI_toInt, i64_toInt, f_in, if_pos, if_neg, if_true, if_false, g7]
    · refine OP.read (r := -3) hi ?_ ?_
      · show f_X4_part M 0 (nI i) id a y = _
        unfold f_X4_part
        rw [hu, cal_s, if_pos rfl]
        simp only [ltc, lec, t3_0, t3_1, t3_8, t3_65535]
        repeat' split
        all_goals first | rfl | (exfalso; omega)
      · show f_X5_part M 91 (nI i) id a y = _
        unfold f_X5_part
        rw [bnd_s, yk1 (M := sI M 91 0 0) hn hy0 hin, cal_s, if_neg (by decide), f_in, cal_s, i64_toInt, t6_2, t6_65535]
        by_cases q : 2 ≤ id.toInt ∧ id.toInt ≤ 65535
        · rw [if_pos q, if_neg (by decide), f_in, cal_s, i64_toInt, t6_0, t6_8, if_neg (show ¬ (0 ≤ y.toInt ∧ y.toInt ≤ 8) by omega), if_pos rfl]
        · rw [if_neg q, if_pos rfl]
  · refine OP.read (r := -2) hi ?_ ?_
    · show f_X4_part M 0 x id a y = _
      unfold f_X4_part
      rw [xk0 hi he, cal_s, if_neg (by decide)]
    · show f_X5_part M 91 x id a y = _
      unfold f_X5_part
      rw [bnd_s, yk0 (M := sI M 91 0 0) hn hy0 he, cal_s, if_pos rfl]
