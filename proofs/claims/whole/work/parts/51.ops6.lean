theorem wl_no {r p : Nat} {a : Int64} {n j b k : Nat} {σ : Nat → Nat → Int32} (h : b ≠ r ∨ k < p ∨ p + j ≤ k) : ups (wl r p a n j) σ b k = σ b k := ups_no (fun w hw e => by obtain ⟨h1, h2, h3, _⟩ := wl_mem j hw; omega)
theorem nz_1 : vp_nar .boolean (1 : Int32) = 1 := rfl
theorem nz_0 : vp_nar .boolean (0 : Int32) = 0 := rfl
/-- the reference's feed, j bytes of it -/
def fdY (M : Me) (z : Nat) (a : Int64) (n : Nat) : Nat → Me
  | 0 => M
  | j + 1 => sI (sI (fdY M z a n j) 111 (z + j) (nI (byv a (n - 1 - j)))) 91 24 (nI (z + j + 1))
theorem fdY_z {M : Me} {z : Nat} {a : Int64} {n : Nat} (h : M.1 91 24 = nI z) : ∀ j, (fdY M z a n j).1 91 24 = nI (z + j)
  | 0 => h
  | j + 1 => sI_eq
theorem fdY_w {M : Me} {z : Nat} {a : Int64} {n : Nat} (h : M.1 91 24 = nI z) : ∀ j, WY ((91, 24, nI (z + j)) :: wl 111 z a n j) M (fdY M z a n j)
  | 0 => by
    refine ⟨fun _ _ _ => rfl, fun a k hr => ?_⟩
    show M.1 a k = if a = 91 ∧ k = 24 then nI (z + 0) else M.1 a k
    by_cases q : a = 91 ∧ k = 24
    · rw [if_pos q, q.1, q.2]; exact h
    · rw [if_neg q]
  | j + 1 => by
    obtain ⟨h1, h2⟩ := fdY_w (a := a) (n := n) h j
    refine ⟨fun b k hb => ?_, fun b k hr => ?_⟩
    · show (sI (sI _ _ _ _) _ _ _).1 b k = _
      rw [sI_ne (by omega), sI_ne (by omega)]
      exact h1 b k hb
    · show (sI (sI (fdY M z a n j) 111 (z + j) (nI (byv a (n - 1 - j)))) 91 24 (nI (z + j + 1))).1 b k = if b = 91 ∧ k = 24 then nI (z + (j + 1)) else if b = 111 ∧ k = z + j then nI (byv a (n - 1 - j)) else ups (wl 111 z a n j) M.1 b k
      have h3 := h2 b k hr
      rw [sI_1, up2_at, sI_1, up2_at]
      by_cases q : b = 91 ∧ k = 24
      · rw [if_pos q, if_pos q]; rfl
      · rw [if_neg q, if_neg q]
        by_cases q2 : b = 111 ∧ k = z + j
        · rw [if_pos q2, if_pos q2]
        · rw [if_neg q2, if_neg q2, h3]
          show (if b = 91 ∧ k = 24 then _ else _) = _
          rw [if_neg q]
theorem fdY_xb {M : Me} {z : Nat} {a : Int64} {n : Nat} (h : XB M) : ∀ j, XB (fdY M z a n j)
  | 0 => h
  | j + 1 => ((fdY_xb h j).up (by omega)).up (by omega)
theorem op_feed {M : Me} (h : INV M) (a : Int64) (x : Int32) : OP (fun M => f_X4_feed M 0 a x) (fun M => f_X5_feed M 91 a x) M := by
  obtain ⟨n, z, c, hi⟩ := h
  have hz := hi.xz
  have hz2 := hi.yz
  have hz3 := hi.1.2.1
  by_cases hr : 1 ≤ x.toInt ∧ x.toInt ≤ 8
  · obtain ⟨k, e, h1, h2⟩ := nI_ofR hr.1 (by omega) hr.2
    subst e
    have hk : k ≤ 8 := by omega
    have hl3 := ln_3
    by_cases hf : z + k ≤ 2000
    · have hm1z : (sI (sI (wrX M 3 z a k k) 2 1 (nI (z + k))) 91 0 0).1 91 24 = nI z := by rw [sI_ne (by omega), sI_ne (by omega), wrX_ne k (by omega)]; exact hz2
      refine ⟨nI (z + k), sI (wrX M 3 z a k k) 2 1 (nI (z + k)), fdY (sI (sI (wrX M 3 z a k k) 2 1 (nI (z + k))) 91 0 0) z a k k, ?_, ?_, ?_⟩
      · show f_X4_feed M 0 a (nI k) = _
        unfold f_X4_feed
        simp (disch := omega) only [cal_s, bnd_s, bndV_s, chZ_0, chZ_1, rf_0_0, rf_0_1, rf_0_2, rf_0_3, rf_2_0, rf_4_0, rf_4_1, rf_91_3, rf_91_4, rf_91_5, rf_91_6, rf_91_7, rf_91_8, rf_91_9, rf_91_10, rf_91_11, rf_91_12, rf_91_13, rf_91_14, rf_91_15, rf_91_16, rf_91_17, rf_91_18, rf_91_19, rf_91_20, rf_91_21, rf_91_23, rf_91_33, rf_91_42, rf_91_43, rf_E, rf_R, rf_e0, rf_e1, rf_e2, rf_e3, rf_e4, ln_e0, ln_e1, ln_e2, ln_e3, ln_e4, mu_16, mu_40, mu_3, mu_8, um_8, nI_add, nI_1, chk_n, ln_1, ln_3, ln_5, ln_18, ln_92, ln_93, ln_94, ln_95, ln_96, ln_97, ln_98, ln_99, ln_100, ln_101, ln_102, ln_103, ln_104, ln_105, ln_106, ln_107, ln_108, ln_109, ln_110, ln_111, ln_112, ln_113, ln_114, nI_clamp, sI_ne, sI_eq, ltc, lec, eqc, t3_m306674912, t3_m30, t3_m10, t3_m5, t3_m4, t3_m3, t3_m2, t3_m1, t3_0, t3_1, t3_2, t3_3, t3_4, t3_5, t3_6, t3_7, t3_8, t3_9, t3_10, t3_11, t3_12, t3_13, t3_14, t3_15, t3_16, t3_17, t3_18, t3_19, t3_20, t3_22, t3_24, t3_26, t3_28, t3_30, t3_31, t3_32, t3_38, t3_40, t3_42, t3_46, t3_47, t3_60, t3_92, t3_255, t3_512, t3_1980, t3_2000, t3_2048, t3_2107, t3_3600, t3_65535, t3_86399, t3_1000000, t6_m3, t6_m2, t6_0, t6_1, t6_2, t6_8, t6_12, t6_16, t6_20, t6_30, t6_31, t6_40, t6_45, t6_47, t6_255, t6_1980, t6_2107, t6_65535, t6_86399, t6_1000000, t6_33639248, t6_67324752, t6_101010256, t6_134695760, t6_4294967295, nI_toInt, i64_toInt, f_in, if_pos, if_neg, if_true, if_false, hz, f_spr, wrX_ne]
      · show f_X5_feed (sI (wrX M 3 z a k k) 2 1 (nI (z + k))) 91 a (nI k) = _
        unfold f_X5_feed
        simp (disch := omega) only [cal_s, bnd_s, bndV_s, chZ_0, chZ_1, rf_0_0, rf_0_1, rf_0_2, rf_0_3, rf_2_0, rf_4_0, rf_4_1, rf_91_3, rf_91_4, rf_91_5, rf_91_6, rf_91_7, rf_91_8, rf_91_9, rf_91_10, rf_91_11, rf_91_12, rf_91_13, rf_91_14, rf_91_15, rf_91_16, rf_91_17, rf_91_18, rf_91_19, rf_91_20, rf_91_21, rf_91_23, rf_91_33, rf_91_42, rf_91_43, rf_E, rf_R, rf_e0, rf_e1, rf_e2, rf_e3, rf_e4, ln_e0, ln_e1, ln_e2, ln_e3, ln_e4, mu_16, mu_40, mu_3, mu_8, um_8, nI_add, nI_1, chk_n, ln_1, ln_3, ln_5, ln_18, ln_92, ln_93, ln_94, ln_95, ln_96, ln_97, ln_98, ln_99, ln_100, ln_101, ln_102, ln_103, ln_104, ln_105, ln_106, ln_107, ln_108, ln_109, ln_110, ln_111, ln_112, ln_113, ln_114, nI_clamp, sI_ne, sI_eq, ltc, lec, eqc, t3_m306674912, t3_m30, t3_m10, t3_m5, t3_m4, t3_m3, t3_m2, t3_m1, t3_0, t3_1, t3_2, t3_3, t3_4, t3_5, t3_6, t3_7, t3_8, t3_9, t3_10, t3_11, t3_12, t3_13, t3_14, t3_15, t3_16, t3_17, t3_18, t3_19, t3_20, t3_22, t3_24, t3_26, t3_28, t3_30, t3_31, t3_32, t3_38, t3_40, t3_42, t3_46, t3_47, t3_60, t3_92, t3_255, t3_512, t3_1980, t3_2000, t3_2048, t3_2107, t3_3600, t3_65535, t3_86399, t3_1000000, t6_m3, t6_m2, t6_0, t6_1, t6_2, t6_8, t6_12, t6_16, t6_20, t6_30, t6_31, t6_40, t6_45, t6_47, t6_255, t6_1980, t6_2107, t6_65535, t6_86399, t6_1000000, t6_33639248, t6_67324752, t6_101010256, t6_134695760, t6_4294967295, nI_toInt, i64_toInt, f_in, if_pos, if_neg, if_true, if_false, wrX_ne, hz2]
        unfold l_X5_feed_38
        refine lp_for _ (fun j => fdY (sI (sI (wrX M 3 z a k k) 2 1 (nI (z + k))) 91 0 0) z a k j) k _ (fun kb j hj => ?_) (fun kb => ?_) FU 0 (by omega) (by unfold FU; omega)
        · show g_X5_feed_38 _ kb 91 a (nI k) (nI j) _ = _
          unfold g_X5_feed_38
          rw [if_neg (nI_ge hj (by omega)), f_byt a hk hj, cal_s, rf_91_23, fdY_z hm1z j, chk_n _ (by rw [ln_111]; omega) (by decide), bnd_s, bnd_s, bndV_s, nI_1, nI_clamp (by omega), sI_ne (by omega), fdY_z hm1z j, nI_1]
          rfl
        · show g_X5_feed_38 _ kb 91 a (nI k) (nI k) _ = _
          unfold g_X5_feed_38
          rw [if_pos (nI_le (Nat.le_refl k) (by omega))]
          show some ((fdY _ z a k k).1 91 24, fdY _ z a k k) = _
          rw [fdY_z hm1z k]
      · have hX : WX ((91, 24, nI (z + k)) :: wl 111 z a k k) M (sI (wrX M 3 z a k k) 2 1 (nI (z + k))) := (wrX_w (M := M) (x := 3) (y := z) (r := 111) (q := z) (a := a) (n := k) (by unfold byr; omega) k (fun i hi => ⟨Or.inr ⟨by omega, by omega, show z + i < 2000 by omega⟩, rfl⟩)).cons (a0 := 91) (k0 := 24) (vd_h (by omega)) (msk_id (by omega))
        have hY : WY ((91, 24, nI (z + k)) :: wl 111 z a k k) (sI (wrX M 3 z a k k) 2 1 (nI (z + k))) (fdY (sI (sI (wrX M 3 z a k k) 2 1 (nI (z + k))) 91 0 0) z a k k) := by
          have h3 := (((WY.nil (M := sI (wrX M 3 z a k k) 2 1 (nI (z + k)))).scr (x := 91) (y := 0) (v := 0) (by omega)).trans (fdY_w (a := a) (n := k) hm1z k))
          rw [List.append_nil] at h3
          exact h3
        have hm : ∀ w ∈ wl 111 z a k k, w.1 = 111 ∧ z ≤ w.2.1 ∧ w.2.1 < z + k ∧ isB w.2.2 := fun w hw => wl_mem k hw
        obtain ⟨i1, i2, i3, i4, i5⟩ := hi
        refine ⟨n, z + k, c, WXY.gen hX hY (fdY_xb (((wrX_xb i5 k).up (by omega)).up (by omega)) k) (i4.ups ?_) ⟨i1.1, hf, i1.2.2.1, ?_, ?_, ?_⟩ (i2.ups ?_ ?_) (fun i hi => (i3 i hi).ups ?_ ?_)⟩
        · intro w hw; rcases List.mem_cons.mp hw with e | hw
          · subst e; intro q; simp at q
          · intro q; have := (hm w hw).1; omega
        · simp (disch := omega) only [ups, if_neg, wl_no]; exact i1.2.2.2.1
        · simp (disch := omega) only [ups, if_pos, wl_no, and_self, if_true]
        · simp (disch := omega) only [ups, if_neg, wl_no]; exact i1.2.2.2.2.2
        · intro w hw; rcases List.mem_cons.mp hw with e | hw
          · subst e; intro q; simp [byr] at q
          · intro _; exact (hm w hw).2.2.2
        · intro w hw; rcases List.mem_cons.mp hw with e | hw
          · subst e; intro q; simp at q
          · intro q; have := (hm w hw).2.2.1; omega
        · intro w hw; rcases List.mem_cons.mp hw with e | hw
          · subst e; intro q; simp at q
          · intro q; have := (hm w hw).1; omega
        · intro w hw; rcases List.mem_cons.mp hw with e | hw
          · subst e; intro q; simp at q
          · intro q; have := (hm w hw).1; omega
    · refine OP.read (r := -5) hi ?_ ?_
      · show f_X4_feed M 0 a (nI k) = _
        unfold f_X4_feed
        simp (disch := omega) only [cal_s, bnd_s, bndV_s, chZ_0, chZ_1, rf_0_0, rf_0_1, rf_0_2, rf_0_3, rf_2_0, rf_4_0, rf_4_1, rf_91_3, rf_91_4, rf_91_5, rf_91_6, rf_91_7, rf_91_8, rf_91_9, rf_91_10, rf_91_11, rf_91_12, rf_91_13, rf_91_14, rf_91_15, rf_91_16, rf_91_17, rf_91_18, rf_91_19, rf_91_20, rf_91_21, rf_91_23, rf_91_33, rf_91_42, rf_91_43, rf_E, rf_R, rf_e0, rf_e1, rf_e2, rf_e3, rf_e4, ln_e0, ln_e1, ln_e2, ln_e3, ln_e4, mu_16, mu_40, mu_3, mu_8, um_8, nI_add, nI_1, chk_n, ln_1, ln_3, ln_5, ln_18, ln_92, ln_93, ln_94, ln_95, ln_96, ln_97, ln_98, ln_99, ln_100, ln_101, ln_102, ln_103, ln_104, ln_105, ln_106, ln_107, ln_108, ln_109, ln_110, ln_111, ln_112, ln_113, ln_114, nI_clamp, sI_ne, sI_eq, ltc, lec, eqc, t3_m306674912, t3_m30, t3_m10, t3_m5, t3_m4, t3_m3, t3_m2, t3_m1, t3_0, t3_1, t3_2, t3_3, t3_4, t3_5, t3_6, t3_7, t3_8, t3_9, t3_10, t3_11, t3_12, t3_13, t3_14, t3_15, t3_16, t3_17, t3_18, t3_19, t3_20, t3_22, t3_24, t3_26, t3_28, t3_30, t3_31, t3_32, t3_38, t3_40, t3_42, t3_46, t3_47, t3_60, t3_92, t3_255, t3_512, t3_1980, t3_2000, t3_2048, t3_2107, t3_3600, t3_65535, t3_86399, t3_1000000, t6_m3, t6_m2, t6_0, t6_1, t6_2, t6_8, t6_12, t6_16, t6_20, t6_30, t6_31, t6_40, t6_45, t6_47, t6_255, t6_1980, t6_2107, t6_65535, t6_86399, t6_1000000, t6_33639248, t6_67324752, t6_101010256, t6_134695760, t6_4294967295, nI_toInt, i64_toInt, f_in, if_pos, if_neg, if_true, if_false, hz]
      · show f_X5_feed M 91 a (nI k) = _
        unfold f_X5_feed
        simp (disch := omega) only [cal_s, bnd_s, bndV_s, chZ_0, chZ_1, rf_0_0, rf_0_1, rf_0_2, rf_0_3, rf_2_0, rf_4_0, rf_4_1, rf_91_3, rf_91_4, rf_91_5, rf_91_6, rf_91_7, rf_91_8, rf_91_9, rf_91_10, rf_91_11, rf_91_12, rf_91_13, rf_91_14, rf_91_15, rf_91_16, rf_91_17, rf_91_18, rf_91_19, rf_91_20, rf_91_21, rf_91_23, rf_91_33, rf_91_42, rf_91_43, rf_E, rf_R, rf_e0, rf_e1, rf_e2, rf_e3, rf_e4, ln_e0, ln_e1, ln_e2, ln_e3, ln_e4, mu_16, mu_40, mu_3, mu_8, um_8, nI_add, nI_1, chk_n, ln_1, ln_3, ln_5, ln_18, ln_92, ln_93, ln_94, ln_95, ln_96, ln_97, ln_98, ln_99, ln_100, ln_101, ln_102, ln_103, ln_104, ln_105, ln_106, ln_107, ln_108, ln_109, ln_110, ln_111, ln_112, ln_113, ln_114, nI_clamp, sI_ne, sI_eq, ltc, lec, eqc, t3_m306674912, t3_m30, t3_m10, t3_m5, t3_m4, t3_m3, t3_m2, t3_m1, t3_0, t3_1, t3_2, t3_3, t3_4, t3_5, t3_6, t3_7, t3_8, t3_9, t3_10, t3_11, t3_12, t3_13, t3_14, t3_15, t3_16, t3_17, t3_18, t3_19, t3_20, t3_22, t3_24, t3_26, t3_28, t3_30, t3_31, t3_32, t3_38, t3_40, t3_42, t3_46, t3_47, t3_60, t3_92, t3_255, t3_512, t3_1980, t3_2000, t3_2048, t3_2107, t3_3600, t3_65535, t3_86399, t3_1000000, t6_m3, t6_m2, t6_0, t6_1, t6_2, t6_8, t6_12, t6_16, t6_20, t6_30, t6_31, t6_40, t6_45, t6_47, t6_255, t6_1980, t6_2107, t6_65535, t6_86399, t6_1000000, t6_33639248, t6_67324752, t6_101010256, t6_134695760, t6_4294967295, nI_toInt, i64_toInt, f_in, if_pos, if_neg, if_true, if_false, hz2]
  · refine OP.read (r := -3) hi ?_ ?_
    · show f_X4_feed M 0 a x = _
      unfold f_X4_feed
      rcases (show x.toInt < 1 ∨ 8 < x.toInt by omega) with q | q <;> simp (disch := omega) only [cal_s, bnd_s, bndV_s, chZ_0, chZ_1, rf_0_0, rf_0_1, rf_0_2, rf_0_3, rf_2_0, rf_4_0, rf_4_1, rf_91_3, rf_91_4, rf_91_5, rf_91_6, rf_91_7, rf_91_8, rf_91_9, rf_91_10, rf_91_11, rf_91_12, rf_91_13, rf_91_14, rf_91_15, rf_91_16, rf_91_17, rf_91_18, rf_91_19, rf_91_20, rf_91_21, rf_91_23, rf_91_33, rf_91_42, rf_91_43, rf_E, rf_R, rf_e0, rf_e1, rf_e2, rf_e3, rf_e4, ln_e0, ln_e1, ln_e2, ln_e3, ln_e4, mu_16, mu_40, mu_3, mu_8, um_8, nI_add, nI_1, chk_n, ln_1, ln_3, ln_5, ln_18, ln_92, ln_93, ln_94, ln_95, ln_96, ln_97, ln_98, ln_99, ln_100, ln_101, ln_102, ln_103, ln_104, ln_105, ln_106, ln_107, ln_108, ln_109, ln_110, ln_111, ln_112, ln_113, ln_114, nI_clamp, sI_ne, sI_eq, ltc, lec, eqc, t3_m306674912, t3_m30, t3_m10, t3_m5, t3_m4, t3_m3, t3_m2, t3_m1, t3_0, t3_1, t3_2, t3_3, t3_4, t3_5, t3_6, t3_7, t3_8, t3_9, t3_10, t3_11, t3_12, t3_13, t3_14, t3_15, t3_16, t3_17, t3_18, t3_19, t3_20, t3_22, t3_24, t3_26, t3_28, t3_30, t3_31, t3_32, t3_38, t3_40, t3_42, t3_46, t3_47, t3_60, t3_92, t3_255, t3_512, t3_1980, t3_2000, t3_2048, t3_2107, t3_3600, t3_65535, t3_86399, t3_1000000, t6_m3, t6_m2, t6_0, t6_1, t6_2, t6_8, t6_12, t6_16, t6_20, t6_30, t6_31, t6_40, t6_45, t6_47, t6_255, t6_1980, t6_2107, t6_65535, t6_86399, t6_1000000, t6_33639248, t6_67324752, t6_101010256, t6_134695760, t6_4294967295, nI_toInt, i64_toInt, f_in, if_pos, if_neg, if_true, if_false]
    · show f_X5_feed M 91 a x = _
      unfold f_X5_feed
      rw [bnd_s, f_in, cal_s, i64_toInt, t6_1, t6_8, if_neg hr, if_pos rfl]
theorem vd_o {i k : Nat} (hi : i < 12) (hk : k < 40) : vd 105 (40 * i + k) := Or.inr ⟨by omega, by omega, show 40 * i + k < 480 by omega⟩
theorem loc_o {i k : Nat} (hk : k < 40) : loc 105 (40 * i + k) = (21 + 6 * i, k) := by
  show (21 + 6 * ((40 * i + k) / 40), (40 * i + k) % 40) = _
  rw [show (40 * i + k) / 40 = i by omega, show (40 * i + k) % 40 = k by omega]
theorem op_data {M : Me} (h : INV M) (x : Int32) (a : Int64) (y : Int32) : OP (fun M => f_X4_data M 0 x a y) (fun M => f_X5_data M 91 x a y) M := by
  obtain ⟨n, z, c, hi⟩ := h
  have hn := hi.1.1
  have hy0 := yn0 hi
  by_cases he : ∃ i, i < n ∧ x = nI i
  · obtain ⟨i, hin, e⟩ := he
    subst e
    have hu := xk1 hi hin
    obtain ⟨nl, dl, pc, g1, g2, g3, g4, g5, g6, g7, g8, g9, g10, g11, g12, g13, g14⟩ := hi.2.2.1 i hin
    have hx8 := hi.x8 hin
    rw [g6] at hx8
    have hxk := hi.xk hin
    have hl1 := ln_e1 (i := i) (by omega)
    by_cases hr : 0 ≤ y.toInt ∧ y.toInt ≤ 8
    · obtain ⟨k, e, h1, h2⟩ := nI_ofR hr.1 (by omega) hr.2
      subst e
      have hk : k ≤ 8 := by omega
      by_cases hkd : (M.1 92 i).toInt = 2
      · have hk2 : M.1 92 i = 2 := Int32.toInt_inj.mp (by rw [hkd]; rfl)
        have hdl := (g12 hk2).1
        refine OP.fault (v := 2) hi ?_ ?_
        · show f_X4_data M 0 (nI i) a (nI k) = _
          unfold f_X4_data f_X4_faultOf
          rw [hu, cal_s, if_pos rfl]
          simp (disch := omega) only [cal_s, bnd_s, bndV_s, chZ_0, chZ_1, rf_0_0, rf_0_1, rf_0_2, rf_0_3, rf_2_0, rf_4_0, rf_4_1, rf_91_3, rf_91_4, rf_91_5, rf_91_6, rf_91_7, rf_91_8, rf_91_9, rf_91_10, rf_91_11, rf_91_12, rf_91_13, rf_91_14, rf_91_15, rf_91_16, rf_91_17, rf_91_18, rf_91_19, rf_91_20, rf_91_21, rf_91_23, rf_91_33, rf_91_42, rf_91_43, rf_E, rf_R, rf_e0, rf_e1, rf_e2, rf_e3, rf_e4, ln_e0, ln_e1, ln_e2, ln_e3, ln_e4, mu_16, mu_40, mu_3, mu_8, um_8, nI_add, nI_1, chk_n, ln_1, ln_3, ln_5, ln_18, ln_92, ln_93, ln_94, ln_95, ln_96, ln_97, ln_98, ln_99, ln_100, ln_101, ln_102, ln_103, ln_104, ln_105, ln_106, ln_107, ln_108, ln_109, ln_110, ln_111, ln_112, ln_113, ln_114, nI_clamp, sI_ne, sI_eq, ltc, lec, eqc, t3_m306674912, t3_m30, t3_m10, t3_m5, t3_m4, t3_m3, t3_m2, t3_m1, t3_0, t3_1, t3_2, t3_3, t3_4, t3_5, t3_6, t3_7, t3_8, t3_9, t3_10, t3_11, t3_12, t3_13, t3_14, t3_15, t3_16, t3_17, t3_18, t3_19, t3_20, t3_22, t3_24, t3_26, t3_28, t3_30, t3_31, t3_32, t3_38, t3_40, t3_42, t3_46, t3_47, t3_60, t3_92, t3_255, t3_512, t3_1980, t3_2000, t3_2048, t3_2107, t3_3600, t3_65535, t3_86399, t3_1000000, t6_m3, t6_m2, t6_0, t6_1, t6_2, t6_8, t6_12, t6_16, t6_20, t6_30, t6_31, t6_40, t6_45, t6_47, t6_255, t6_1980, t6_2107, t6_65535, t6_86399, t6_1000000, t6_33639248, t6_67324752, t6_101010256, t6_134695760, t6_4294967295, nI_toInt, i64_toInt, f_in, if_pos, if_neg, if_true, if_false, hxk]
        · show f_X5_data (sI M 0 6 2) 91 (nI i) a (nI k) = _
          unfold f_X5_data f_X5_fails
          rw [bnd_s, yk1 (M := sI (sI M 0 6 2) 91 0 0) hn (by rw [sI_ne (by omega), sI_ne (by omega)]; exact hi.yn) hin, cal_s, if_neg (by decide)]
          simp (disch := omega) only [cal_s, bnd_s, bndV_s, chZ_0, chZ_1, rf_0_0, rf_0_1, rf_0_2, rf_0_3, rf_2_0, rf_4_0, rf_4_1, rf_91_3, rf_91_4, rf_91_5, rf_91_6, rf_91_7, rf_91_8, rf_91_9, rf_91_10, rf_91_11, rf_91_12, rf_91_13, rf_91_14, rf_91_15, rf_91_16, rf_91_17, rf_91_18, rf_91_19, rf_91_20, rf_91_21, rf_91_23, rf_91_33, rf_91_42, rf_91_43, rf_E, rf_R, rf_e0, rf_e1, rf_e2, rf_e3, rf_e4, ln_e0, ln_e1, ln_e2, ln_e3, ln_e4, mu_16, mu_40, mu_3, mu_8, um_8, nI_add, nI_1, chk_n, ln_1, ln_3, ln_5, ln_18, ln_92, ln_93, ln_94, ln_95, ln_96, ln_97, ln_98, ln_99, ln_100, ln_101, ln_102, ln_103, ln_104, ln_105, ln_106, ln_107, ln_108, ln_109, ln_110, ln_111, ln_112, ln_113, ln_114, nI_clamp, sI_ne, sI_eq, ltc, lec, eqc, t3_m306674912, t3_m30, t3_m10, t3_m5, t3_m4, t3_m3, t3_m2, t3_m1, t3_0, t3_1, t3_2, t3_3, t3_4, t3_5, t3_6, t3_7, t3_8, t3_9, t3_10, t3_11, t3_12, t3_13, t3_14, t3_15, t3_16, t3_17, t3_18, t3_19, t3_20, t3_22, t3_24, t3_26, t3_28, t3_30, t3_31, t3_32, t3_38, t3_40, t3_42, t3_46, t3_47, t3_60, t3_92, t3_255, t3_512, t3_1980, t3_2000, t3_2048, t3_2107, t3_3600, t3_65535, t3_86399, t3_1000000, t6_m3, t6_m2, t6_0, t6_1, t6_2, t6_8, t6_12, t6_16, t6_20, t6_30, t6_31, t6_40, t6_45, t6_47, t6_255, t6_1980, t6_2107, t6_65535, t6_86399, t6_1000000, t6_33639248, t6_67324752, t6_101010256, t6_134695760, t6_4294967295, nI_toInt, i64_toInt, f_in, if_pos, if_neg, if_true, if_false, g6]
      · by_cases hf : dl + k ≤ 40
        · obtain ⟨M1, hM1⟩ : ∃ M1, M1 = sI (sI (sI (wrX M (21 + 6 * i) dl a k k) (19 + 6 * i) 8 (nI (dl + k))) (19 + 6 * i) 10 1) (19 + 6 * i) 11 0 := ⟨_, rfl⟩
          have m1 : ∀ b j, 91 ≤ b → M1.1 b j = M.1 b j := fun b j hb => by rw [hM1, sI_ne (by omega), sI_ne (by omega), sI_ne (by omega), wrX_ne k (by omega)]
          obtain ⟨B0, hB0⟩ : ∃ B0, B0 = sI (sI (sI M1 91 0 0) 103 i 1) 108 i 0 := ⟨_, rfl⟩
          have b0 : B0.1 104 i = nI dl := by rw [hB0, sI_ne (by omega), sI_ne (by omega), sI_ne (by omega), m1 _ _ (by omega)]; exact g6
          refine ⟨nI (dl + k), M1, sI (wrY B0 105 (40 * i + dl) a k k) 104 i (nI (dl + k)), ?_, ?_, ?_⟩
          · show f_X4_data M 0 (nI i) a (nI k) = _
            unfold f_X4_data
            rw [hu, cal_s, if_pos rfl, hM1]
            simp (disch := omega) only [cal_s, bnd_s, bndV_s, chZ_0, chZ_1, rf_0_0, rf_0_1, rf_0_2, rf_0_3, rf_2_0, rf_4_0, rf_4_1, rf_91_3, rf_91_4, rf_91_5, rf_91_6, rf_91_7, rf_91_8, rf_91_9, rf_91_10, rf_91_11, rf_91_12, rf_91_13, rf_91_14, rf_91_15, rf_91_16, rf_91_17, rf_91_18, rf_91_19, rf_91_20, rf_91_21, rf_91_23, rf_91_33, rf_91_42, rf_91_43, rf_E, rf_R, rf_e0, rf_e1, rf_e2, rf_e3, rf_e4, ln_e0, ln_e1, ln_e2, ln_e3, ln_e4, mu_16, mu_40, mu_3, mu_8, um_8, nI_add, nI_1, chk_n, ln_1, ln_3, ln_5, ln_18, ln_92, ln_93, ln_94, ln_95, ln_96, ln_97, ln_98, ln_99, ln_100, ln_101, ln_102, ln_103, ln_104, ln_105, ln_106, ln_107, ln_108, ln_109, ln_110, ln_111, ln_112, ln_113, ln_114, nI_clamp, sI_ne, sI_eq, ltc, lec, eqc, t3_m306674912, t3_m30, t3_m10, t3_m5, t3_m4, t3_m3, t3_m2, t3_m1, t3_0, t3_1, t3_2, t3_3, t3_4, t3_5, t3_6, t3_7, t3_8, t3_9, t3_10, t3_11, t3_12, t3_13, t3_14, t3_15, t3_16, t3_17, t3_18, t3_19, t3_20, t3_22, t3_24, t3_26, t3_28, t3_30, t3_31, t3_32, t3_38, t3_40, t3_42, t3_46, t3_47, t3_60, t3_92, t3_255, t3_512, t3_1980, t3_2000, t3_2048, t3_2107, t3_3600, t3_65535, t3_86399, t3_1000000, t6_m3, t6_m2, t6_0, t6_1, t6_2, t6_8, t6_12, t6_16, t6_20, t6_30, t6_31, t6_40, t6_45, t6_47, t6_255, t6_1980, t6_2107, t6_65535, t6_86399, t6_1000000, t6_33639248, t6_67324752, t6_101010256, t6_134695760, t6_4294967295, nI_toInt, i64_toInt, f_in, if_pos, if_neg, if_true, if_false, hxk, hx8, f_spr, wrX_ne]
          · show f_X5_data M1 91 (nI i) a (nI k) = _
            unfold f_X5_data
            rw [bnd_s, yk1 (M := sI M1 91 0 0) hn (by rw [sI_ne (by omega), m1 _ _ (by omega)]; exact hi.yn) hin, cal_s, if_neg (by decide)]
            simp (disch := omega) only [cal_s, bnd_s, bndV_s, chZ_0, chZ_1, rf_0_0, rf_0_1, rf_0_2, rf_0_3, rf_2_0, rf_4_0, rf_4_1, rf_91_3, rf_91_4, rf_91_5, rf_91_6, rf_91_7, rf_91_8, rf_91_9, rf_91_10, rf_91_11, rf_91_12, rf_91_13, rf_91_14, rf_91_15, rf_91_16, rf_91_17, rf_91_18, rf_91_19, rf_91_20, rf_91_21, rf_91_23, rf_91_33, rf_91_42, rf_91_43, rf_E, rf_R, rf_e0, rf_e1, rf_e2, rf_e3, rf_e4, ln_e0, ln_e1, ln_e2, ln_e3, ln_e4, mu_16, mu_40, mu_3, mu_8, um_8, nI_add, nI_1, chk_n, ln_1, ln_3, ln_5, ln_18, ln_92, ln_93, ln_94, ln_95, ln_96, ln_97, ln_98, ln_99, ln_100, ln_101, ln_102, ln_103, ln_104, ln_105, ln_106, ln_107, ln_108, ln_109, ln_110, ln_111, ln_112, ln_113, ln_114, nI_clamp, sI_ne, sI_eq, ltc, lec, eqc, t3_m306674912, t3_m30, t3_m10, t3_m5, t3_m4, t3_m3, t3_m2, t3_m1, t3_0, t3_1, t3_2, t3_3, t3_4, t3_5, t3_6, t3_7, t3_8, t3_9, t3_10, t3_11, t3_12, t3_13, t3_14, t3_15, t3_16, t3_17, t3_18, t3_19, t3_20, t3_22, t3_24, t3_26, t3_28, t3_30, t3_31, t3_32, t3_38, t3_40, t3_42, t3_46, t3_47, t3_60, t3_92, t3_255, t3_512, t3_1980, t3_2000, t3_2048, t3_2107, t3_3600, t3_65535, t3_86399, t3_1000000, t6_m3, t6_m2, t6_0, t6_1, t6_2, t6_8, t6_12, t6_16, t6_20, t6_30, t6_31, t6_40, t6_45, t6_47, t6_255, t6_1980, t6_2107, t6_65535, t6_86399, t6_1000000, t6_33639248, t6_67324752, t6_101010256, t6_134695760, t6_4294967295, nI_toInt, i64_toInt, f_in, if_pos, if_neg, if_true, if_false, m1, g6, nz_1, nz_0, ← hB0]
            unfold l_X5_data_82
            refine lp_for _ (fun j => wrY B0 105 (40 * i + dl) a k j) k _ (fun kb j hj => ?_) (fun kb => ?_) FU 0 (by omega) (by unfold FU; omega)
            · show g_X5_data_82 _ kb 91 (nI i) a (nI k) (nI j) _ = _
              unfold g_X5_data_82
              rw [if_neg (nI_ge hj (by omega)), f_byt a hk hj]
              simp (disch := omega) only [cal_s, bnd_s, bndV_s, chZ_0, chZ_1, rf_0_0, rf_0_1, rf_0_2, rf_0_3, rf_2_0, rf_4_0, rf_4_1, rf_91_3, rf_91_4, rf_91_5, rf_91_6, rf_91_7, rf_91_8, rf_91_9, rf_91_10, rf_91_11, rf_91_12, rf_91_13, rf_91_14, rf_91_15, rf_91_16, rf_91_17, rf_91_18, rf_91_19, rf_91_20, rf_91_21, rf_91_23, rf_91_33, rf_91_42, rf_91_43, rf_E, rf_R, rf_e0, rf_e1, rf_e2, rf_e3, rf_e4, ln_e0, ln_e1, ln_e2, ln_e3, ln_e4, mu_16, mu_40, mu_3, mu_8, um_8, nI_add, nI_1, chk_n, ln_1, ln_3, ln_5, ln_18, ln_92, ln_93, ln_94, ln_95, ln_96, ln_97, ln_98, ln_99, ln_100, ln_101, ln_102, ln_103, ln_104, ln_105, ln_106, ln_107, ln_108, ln_109, ln_110, ln_111, ln_112, ln_113, ln_114, nI_clamp, sI_ne, sI_eq, ltc, lec, eqc, t3_m306674912, t3_m30, t3_m10, t3_m5, t3_m4, t3_m3, t3_m2, t3_m1, t3_0, t3_1, t3_2, t3_3, t3_4, t3_5, t3_6, t3_7, t3_8, t3_9, t3_10, t3_11, t3_12, t3_13, t3_14, t3_15, t3_16, t3_17, t3_18, t3_19, t3_20, t3_22, t3_24, t3_26, t3_28, t3_30, t3_31, t3_32, t3_38, t3_40, t3_42, t3_46, t3_47, t3_60, t3_92, t3_255, t3_512, t3_1980, t3_2000, t3_2048, t3_2107, t3_3600, t3_65535, t3_86399, t3_1000000, t6_m3, t6_m2, t6_0, t6_1, t6_2, t6_8, t6_12, t6_16, t6_20, t6_30, t6_31, t6_40, t6_45, t6_47, t6_255, t6_1980, t6_2107, t6_65535, t6_86399, t6_1000000, t6_33639248, t6_67324752, t6_101010256, t6_134695760, t6_4294967295, nI_toInt, i64_toInt, f_in, if_pos, if_neg, if_true, if_false, wrY_ne, b0]
              rfl
            · show g_X5_data_82 _ kb 91 (nI i) a (nI k) (nI k) _ = _
              unfold g_X5_data_82
              rw [if_pos (nI_le (Nat.le_refl k) (by omega))]
              simp (disch := omega) only [cal_s, bnd_s, bndV_s, chZ_0, chZ_1, rf_0_0, rf_0_1, rf_0_2, rf_0_3, rf_2_0, rf_4_0, rf_4_1, rf_91_3, rf_91_4, rf_91_5, rf_91_6, rf_91_7, rf_91_8, rf_91_9, rf_91_10, rf_91_11, rf_91_12, rf_91_13, rf_91_14, rf_91_15, rf_91_16, rf_91_17, rf_91_18, rf_91_19, rf_91_20, rf_91_21, rf_91_23, rf_91_33, rf_91_42, rf_91_43, rf_E, rf_R, rf_e0, rf_e1, rf_e2, rf_e3, rf_e4, ln_e0, ln_e1, ln_e2, ln_e3, ln_e4, mu_16, mu_40, mu_3, mu_8, um_8, nI_add, nI_1, chk_n, ln_1, ln_3, ln_5, ln_18, ln_92, ln_93, ln_94, ln_95, ln_96, ln_97, ln_98, ln_99, ln_100, ln_101, ln_102, ln_103, ln_104, ln_105, ln_106, ln_107, ln_108, ln_109, ln_110, ln_111, ln_112, ln_113, ln_114, nI_clamp, sI_ne, sI_eq, ltc, lec, eqc, t3_m306674912, t3_m30, t3_m10, t3_m5, t3_m4, t3_m3, t3_m2, t3_m1, t3_0, t3_1, t3_2, t3_3, t3_4, t3_5, t3_6, t3_7, t3_8, t3_9, t3_10, t3_11, t3_12, t3_13, t3_14, t3_15, t3_16, t3_17, t3_18, t3_19, t3_20, t3_22, t3_24, t3_26, t3_28, t3_30, t3_31, t3_32, t3_38, t3_40, t3_42, t3_46, t3_47, t3_60, t3_92, t3_255, t3_512, t3_1980, t3_2000, t3_2048, t3_2107, t3_3600, t3_65535, t3_86399, t3_1000000, t6_m3, t6_m2, t6_0, t6_1, t6_2, t6_8, t6_12, t6_16, t6_20, t6_30, t6_31, t6_40, t6_45, t6_47, t6_255, t6_1980, t6_2107, t6_65535, t6_86399, t6_1000000, t6_33639248, t6_67324752, t6_101010256, t6_134695760, t6_4294967295, nI_toInt, i64_toInt, f_in, if_pos, if_neg, if_true, if_false, wrY_ne, b0]
          · have hX : WX ([(108, i, 0), (103, i, 1)] ++ ((104, i, nI (dl + k)) :: wl 105 (40 * i + dl) a k k)) M M1 := by
              rw [hM1]
              exact (((wrX_w (M := M) (x := 21 + 6 * i) (y := dl) (r := 105) (q := 40 * i + dl) (a := a) (n := k) (by unfold byr; omega) k (fun j hj => ⟨by rw [Nat.add_assoc]; exact vd_o (by omega) (by omega), by rw [Nat.add_assoc]; exact loc_o (by omega)⟩)).cons (a0 := 104) (k0 := i) (vd_s (by omega) (by omega)) (msk_id (by omega))).cons (a0 := 103) (k0 := i) (vd_s (by omega) (by omega)) (msk_id (by omega))).cons (a0 := 108) (k0 := i) (vd_s (by omega) (by omega)) (msk_id (by omega))
            have hm : ∀ w ∈ wl 105 (40 * i + dl) a k k, w.1 = 105 ∧ 40 * i + dl ≤ w.2.1 ∧ w.2.1 < 40 * i + dl + k ∧ isB w.2.2 := fun w hw => wl_mem k hw
            have hm2 : ∀ w ∈ [(108, i, 0), (103, i, 1)] ++ ((104, i, nI (dl + k)) :: wl 105 (40 * i + dl) a k k), (w.2.1 = i ∧ (w.1 = 108 ∨ w.1 = 103 ∨ w.1 = 104)) ∨ (w.1 = 105 ∧ isB w.2.2) := by
              intro w hw
              rcases List.mem_append.mp hw with hw | hw
              · simp at hw; rcases hw with e | e <;> subst e <;> simp
              · rcases List.mem_cons.mp hw with e | hw
                · subst e; simp
                · exact Or.inr ⟨(hm w hw).1, (hm w hw).2.2.2⟩
            have hY : WY ([(108, i, 0), (103, i, 1)] ++ ((104, i, nI (dl + k)) :: wl 105 (40 * i + dl) a k k)) M1 (sI (wrY B0 105 (40 * i + dl) a k k) 104 i (nI (dl + k))) := by
              refine WY.swap (A := (104, i, nI (dl + k)) :: wl 105 (40 * i + dl) a k k) ?_ ?_
              · intro w hw v hv
                rcases List.mem_cons.mp hw with e | hw
                · subst e; simp at hv; rcases hv with e | e <;> subst e <;> simp
                · have := (hm w hw).1
                  simp at hv; rcases hv with e | e <;> subst e <;> simp <;> omega
              · have h3 := ((((WY.nil (M := M1)).scr (x := 91) (y := 0) (v := 0) (by omega)).cons (a0 := 103) (k0 := i) (w := 1) (by omega)).cons (a0 := 108) (k0 := i) (w := 0) (by omega))
                rw [← hB0] at h3
                exact ((h3.trans (wrY_w (M := B0) (r := 105) (q := 40 * i + dl) (a := a) (n := k) (by omega) k)).cons (a0 := 104) (k0 := i) (w := nI (dl + k)) (by omega))
            have hxb : XB (sI (wrY B0 105 (40 * i + dl) a k k) 104 i (nI (dl + k))) := by
              rw [hB0, hM1]
              exact (wrY_xb (((((((wrX_xb hi.xb k).up (by omega)).up (by omega)).up (by omega)).up (by omega)).up (by omega)).up (by omega)) (by omega) k).up (by omega)
            refine ⟨n, z, c, WXY.iv hX hY hi hxb ?_ ?_ ?_ ?_ ?_⟩
            · intro w hw q; have := hm2 w hw; omega
            · intro w hw q; have := hm2 w hw; omega
            · intro w hw q
              rcases hm2 w hw with h | h
              · unfold byr at q; omega
              · exact h.2
            · intro w hw q; have := hm2 w hw; omega
            · intro j hj hE
              by_cases hji : j = i
              · subst hji
                refine ⟨nl, dl + k, pc, g1, g2, hf, g4, ?_, ?_, ?_, ?_, ?_, ?_, ?_, ?_, ?_, ?_⟩
                · simp (disch := omega) only [List.cons_append, List.nil_append, ups, if_neg, wl_no]; exact g5
                · simp (disch := omega) only [List.cons_append, List.nil_append, ups, if_neg, if_pos, and_self, if_true]
                · simp (disch := omega) only [List.cons_append, List.nil_append, ups, if_neg, wl_no]; exact g7
                · simp (disch := omega) only [List.cons_append, List.nil_append, ups, if_neg, wl_no]; exact g8
                · simp (disch := omega) only [List.cons_append, List.nil_append, ups, if_neg, wl_no]; exact g9
                · simp (disch := omega) only [List.cons_append, List.nil_append, ups, if_neg, if_pos, and_self, if_true, or_true]
                · simp (disch := omega) only [List.cons_append, List.nil_append, ups, if_neg, if_pos, and_self, if_true, true_or]
                · simp (disch := omega) only [List.cons_append, List.nil_append, ups, if_neg, wl_no]
                  intro q
                  rw [q] at hkd
                  exact absurd rfl hkd
                · simp (disch := omega) only [List.cons_append, List.nil_append, ups, if_neg, wl_no]; exact g13
                · intro p hp
                  simp (disch := omega) only [List.cons_append, List.nil_append, ups, if_neg, wl_no]
                  exact g14 p hp
              · refine hE.ups ?_ ?_
                · intro w hw q; have := hm2 w hw; omega
                · intro w hw q; have := hm2 w hw; omega
        · refine OP.read (r := -5) hi ?_ ?_
          · show f_X4_data M 0 (nI i) a (nI k) = _
            unfold f_X4_data
            rw [hu, cal_s, if_pos rfl]
            simp (disch := omega) only [cal_s, bnd_s, bndV_s, chZ_0, chZ_1, rf_0_0, rf_0_1, rf_0_2, rf_0_3, rf_2_0, rf_4_0, rf_4_1, rf_91_3, rf_91_4, rf_91_5, rf_91_6, rf_91_7, rf_91_8, rf_91_9, rf_91_10, rf_91_11, rf_91_12, rf_91_13, rf_91_14, rf_91_15, rf_91_16, rf_91_17, rf_91_18, rf_91_19, rf_91_20, rf_91_21, rf_91_23, rf_91_33, rf_91_42, rf_91_43, rf_E, rf_R, rf_e0, rf_e1, rf_e2, rf_e3, rf_e4, ln_e0, ln_e1, ln_e2, ln_e3, ln_e4, mu_16, mu_40, mu_3, mu_8, um_8, nI_add, nI_1, chk_n, ln_1, ln_3, ln_5, ln_18, ln_92, ln_93, ln_94, ln_95, ln_96, ln_97, ln_98, ln_99, ln_100, ln_101, ln_102, ln_103, ln_104, ln_105, ln_106, ln_107, ln_108, ln_109, ln_110, ln_111, ln_112, ln_113, ln_114, nI_clamp, sI_ne, sI_eq, ltc, lec, eqc, t3_m306674912, t3_m30, t3_m10, t3_m5, t3_m4, t3_m3, t3_m2, t3_m1, t3_0, t3_1, t3_2, t3_3, t3_4, t3_5, t3_6, t3_7, t3_8, t3_9, t3_10, t3_11, t3_12, t3_13, t3_14, t3_15, t3_16, t3_17, t3_18, t3_19, t3_20, t3_22, t3_24, t3_26, t3_28, t3_30, t3_31, t3_32, t3_38, t3_40, t3_42, t3_46, t3_47, t3_60, t3_92, t3_255, t3_512, t3_1980, t3_2000, t3_2048, t3_2107, t3_3600, t3_65535, t3_86399, t3_1000000, t6_m3, t6_m2, t6_0, t6_1, t6_2, t6_8, t6_12, t6_16, t6_20, t6_30, t6_31, t6_40, t6_45, t6_47, t6_255, t6_1980, t6_2107, t6_65535, t6_86399, t6_1000000, t6_33639248, t6_67324752, t6_101010256, t6_134695760, t6_4294967295, nI_toInt, i64_toInt, f_in, if_pos, if_neg, if_true, if_false, hxk, hx8]
          · show f_X5_data M 91 (nI i) a (nI k) = _
            unfold f_X5_data
            rw [bnd_s, yk1 (M := sI M 91 0 0) hn hy0 hin, cal_s, if_neg (by decide)]
            simp (disch := omega) only [cal_s, bnd_s, bndV_s, chZ_0, chZ_1, rf_0_0, rf_0_1, rf_0_2, rf_0_3, rf_2_0, rf_4_0, rf_4_1, rf_91_3, rf_91_4, rf_91_5, rf_91_6, rf_91_7, rf_91_8, rf_91_9, rf_91_10, rf_91_11, rf_91_12, rf_91_13, rf_91_14, rf_91_15, rf_91_16, rf_91_17, rf_91_18, rf_91_19, rf_91_20, rf_91_21, rf_91_23, rf_91_33, rf_91_42, rf_91_43, rf_E, rf_R, rf_e0, rf_e1, rf_e2, rf_e3, rf_e4, ln_e0, ln_e1, ln_e2, ln_e3, ln_e4, mu_16, mu_40, mu_3, mu_8, um_8, nI_add, nI_1, chk_n, ln_1, ln_3, ln_5, ln_18, ln_92, ln_93, ln_94, ln_95, ln_96, ln_97, ln_98, ln_99, ln_100, ln_101, ln_102, ln_103, ln_104, ln_105, ln_106, ln_107, ln_108, ln_109, ln_110, ln_111, ln_112, ln_113, ln_114, nI_clamp, sI_ne, sI_eq, ltc, lec, eqc, t3_m306674912, t3_m30, t3_m10, t3_m5, t3_m4, t3_m3, t3_m2, t3_m1, t3_0, t3_1, t3_2, t3_3, t3_4, t3_5, t3_6, t3_7, t3_8, t3_9, t3_10, t3_11, t3_12, t3_13, t3_14, t3_15, t3_16, t3_17, t3_18, t3_19, t3_20, t3_22, t3_24, t3_26, t3_28, t3_30, t3_31, t3_32, t3_38, t3_40, t3_42, t3_46, t3_47, t3_60, t3_92, t3_255, t3_512, t3_1980, t3_2000, t3_2048, t3_2107, t3_3600, t3_65535, t3_86399, t3_1000000, t6_m3, t6_m2, t6_0, t6_1, t6_2, t6_8, t6_12, t6_16, t6_20, t6_30, t6_31, t6_40, t6_45, t6_47, t6_255, t6_1980, t6_2107, t6_65535, t6_86399, t6_1000000, t6_33639248, t6_67324752, t6_101010256, t6_134695760, t6_4294967295, nI_toInt, i64_toInt, f_in, if_pos, if_neg, if_true, if_false, g6]
    · refine OP.read (r := -3) hi ?_ ?_
      · show f_X4_data M 0 (nI i) a y = _
        unfold f_X4_data
        rw [hu, cal_s, if_pos rfl]
        rcases (show y.toInt < 0 ∨ 8 < y.toInt by omega) with q | q <;> simp (disch := omega) only [cal_s, bnd_s, bndV_s, chZ_0, chZ_1, rf_0_0, rf_0_1, rf_0_2, rf_0_3, rf_2_0, rf_4_0, rf_4_1, rf_91_3, rf_91_4, rf_91_5, rf_91_6, rf_91_7, rf_91_8, rf_91_9, rf_91_10, rf_91_11, rf_91_12, rf_91_13, rf_91_14, rf_91_15, rf_91_16, rf_91_17, rf_91_18, rf_91_19, rf_91_20, rf_91_21, rf_91_23, rf_91_33, rf_91_42, rf_91_43, rf_E, rf_R, rf_e0, rf_e1, rf_e2, rf_e3, rf_e4, ln_e0, ln_e1, ln_e2, ln_e3, ln_e4, mu_16, mu_40, mu_3, mu_8, um_8, nI_add, nI_1, chk_n, ln_1, ln_3, ln_5, ln_18, ln_92, ln_93, ln_94, ln_95, ln_96, ln_97, ln_98, ln_99, ln_100, ln_101, ln_102, ln_103, ln_104, ln_105, ln_106, ln_107, ln_108, ln_109, ln_110, ln_111, ln_112, ln_113, ln_114, nI_clamp, sI_ne, sI_eq, ltc, lec, eqc, t3_m306674912, t3_m30, t3_m10, t3_m5, t3_m4, t3_m3, t3_m2, t3_m1, t3_0, t3_1, t3_2, t3_3, t3_4, t3_5, t3_6, t3_7, t3_8, t3_9, t3_10, t3_11, t3_12, t3_13, t3_14, t3_15, t3_16, t3_17, t3_18, t3_19, t3_20, t3_22, t3_24, t3_26, t3_28, t3_30, t3_31, t3_32, t3_38, t3_40, t3_42, t3_46, t3_47, t3_60, t3_92, t3_255, t3_512, t3_1980, t3_2000, t3_2048, t3_2107, t3_3600, t3_65535, t3_86399, t3_1000000, t6_m3, t6_m2, t6_0, t6_1, t6_2, t6_8, t6_12, t6_16, t6_20, t6_30, t6_31, t6_40, t6_45, t6_47, t6_255, t6_1980, t6_2107, t6_65535, t6_86399, t6_1000000, t6_33639248, t6_67324752, t6_101010256, t6_134695760, t6_4294967295, nI_toInt, i64_toInt, f_in, if_pos, if_neg, if_true, if_false]
      · show f_X5_data M 91 (nI i) a y = _
        unfold f_X5_data
        rw [bnd_s, yk1 (M := sI M 91 0 0) hn hy0 hin, cal_s, if_neg (by decide), f_in, cal_s, i64_toInt, t6_0, t6_8, if_neg hr, if_pos rfl]
  · refine OP.read (r := -2) hi ?_ ?_
    · show f_X4_data M 0 x a y = _
      unfold f_X4_data
      rw [xk0 hi he, cal_s, if_neg (by decide)]
    · show f_X5_data M 91 x a y = _
      unfold f_X5_data
      rw [bnd_s, yk0 (M := sI M 91 0 0) hn hy0 he, cal_s, if_pos rfl]
