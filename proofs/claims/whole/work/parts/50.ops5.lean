/-! OPERATIONS that write bytes -/
theorem ups_cong {l : List (Nat × Nat × Int32)} {f g : Nat → Nat → Int32} {a k : Nat} (h : f a k = g a k) : ups l f a k = ups l g a k := by
  induction l with
  | nil => exact h
  | cons w t ih =>
    show (if a = w.1 ∧ k = w.2.1 then w.2.2 else ups t f a k) = if a = w.1 ∧ k = w.2.1 then w.2.2 else ups t g a k
    rw [ih]
/-- both orders of writes to different places -/
theorem ups_swap {A B : List (Nat × Nat × Int32)} (h : ∀ x ∈ A, ∀ y ∈ B, ¬ (x.1 = y.1 ∧ x.2.1 = y.2.1)) (σ : Nat → Nat → Int32) (a k : Nat) : ups (A ++ B) σ a k = ups (B ++ A) σ a k := by
  rw [ups_app, ups_app]
  by_cases q : ∃ x ∈ A, a = x.1 ∧ k = x.2.1
  · obtain ⟨x, hx, e1, e2⟩ := q
    have hB : ∀ f : Nat → Nat → Int32, ups B f a k = f a k := fun f => ups_no (fun y hy e => h x hx y hy ⟨by omega, by omega⟩)
    rw [hB]
    exact ups_cong (hB σ)
  · have hA : ∀ f : Nat → Nat → Int32, ups A f a k = f a k := fun f => ups_no (fun x hx e => q ⟨x, hx, e⟩)
    rw [hA]
    exact (ups_cong (hA σ)).symm
theorem WY.swap {A B : List (Nat × Nat × Int32)} {M1 M2 : Me} (h : ∀ x ∈ A, ∀ y ∈ B, ¬ (x.1 = y.1 ∧ x.2.1 = y.2.1)) (hy : WY (A ++ B) M1 M2) : WY (B ++ A) M1 M2 := ⟨hy.1, fun a k hr => (hy.2 a k hr).trans (ups_swap h _ a k)⟩
theorem WX.swap {A B : List (Nat × Nat × Int32)} {M1 M2 : Me} (h : ∀ x ∈ A, ∀ y ∈ B, ¬ (x.1 = y.1 ∧ x.2.1 = y.2.1)) (hy : WX (A ++ B) M1 M2) : WX (B ++ A) M1 M2 := ⟨fun a k hr => (hy.1 a k hr).trans (ups_swap h _ a k), hy.2⟩
theorem WXY.gen {l : List (Nat × Nat × Int32)} {M M1 M2 : Me} {n z c : Nat} (hx : WX l M M1) (hy : WY l M1 M2) (hxb : XB M2) (hre : RE (ups l (AX M)) (ups l M.1) n) (hh : Yh (ups l M.1) n z c) (hb : Yb (ups l M.1)) (hE : ∀ i, i < n → EOK (ups l M.1) i) : IV M2 n z c := by
  refine ⟨hh.congr (fun k hk => WXY.y hx hy ⟨by omega, by omega, by omega⟩), hb.congr (fun a k ha => WXY.y hx hy ⟨by omega, by omega, by omega⟩), fun i hi => (hE i hi).congr (fun a ha => WXY.y hx hy ⟨by omega, by omega, by omega⟩) (fun p hp => WXY.y hx hy ⟨by omega, by omega, by omega⟩), ?_, hxb⟩
  refine RE.same hre (fun a k hv => ?_) (fun a k hv => WXY.y hx hy (vd_yr hv))
  rw [← hx.1 a k hv]
  have := loc_lt hv
  unfold AX
  rw [hy.1 _ _ this]
theorem op_comment {M : Me} (h : INV M) (a : Int64) (x : Int32) : OP (fun M => f_X4_comment M 0 a x) (fun M => f_X5_comment M 91 a x) M := by
  obtain ⟨n, z, c, hi⟩ := h
  by_cases hr : 0 ≤ x.toInt ∧ x.toInt ≤ 8
  · obtain ⟨k, e, h1, h2⟩ := nI_ofR hr.1 (by omega) hr.2
    subst e
    have hk : k ≤ 8 := by omega
    refine ⟨1, sI (wrX M 18 0 a k k) 0 5 (nI k), sI (wrY (sI (sI (wrX M 18 0 a k k) 0 5 (nI k)) 91 0 0) 110 0 a k k) 91 22 (nI k), ?_, ?_, ?_⟩
    · show f_X4_comment M 0 a (nI k) = _
      unfold f_X4_comment
      simp (disch := omega) only [cal_s, bnd_s, bndV_s, chZ_0, chZ_1, rf_0_0, rf_0_1, rf_0_2, rf_0_3, rf_2_0, rf_4_0, rf_4_1, rf_91_3, rf_91_4, rf_91_5, rf_91_6, rf_91_7, rf_91_8, rf_91_9, rf_91_10, rf_91_11, rf_91_12, rf_91_13, rf_91_14, rf_91_15, rf_91_16, rf_91_17, rf_91_18, rf_91_19, rf_91_20, rf_91_21, rf_91_23, rf_91_33, rf_91_42, rf_91_43, rf_E, rf_R, rf_e0, rf_e1, rf_e2, rf_e3, rf_e4, ln_e0, ln_e1, ln_e2, ln_e3, ln_e4, mu_16, mu_40, mu_3, mu_8, um_8, nI_add, nI_1, chk_n, ln_1, ln_3, ln_5, ln_18, ln_92, ln_93, ln_94, ln_95, ln_96, ln_97, ln_98, ln_99, ln_100, ln_101, ln_102, ln_103, ln_104, ln_105, ln_106, ln_107, ln_108, ln_109, ln_110, ln_111, ln_112, ln_113, ln_114, nI_clamp, sI_ne, sI_eq, ltc, lec, eqc, t3_m306674912, t3_m30, t3_m10, t3_m5, t3_m4, t3_m3, t3_m2, t3_m1, t3_0, t3_1, t3_2, t3_3, t3_4, t3_5, t3_6, t3_7, t3_8, t3_9, t3_10, t3_11, t3_12, t3_13, t3_14, t3_15, t3_16, t3_17, t3_18, t3_19, t3_20, t3_22, t3_24, t3_26, t3_28, t3_30, t3_31, t3_32, t3_38, t3_40, t3_42, t3_46, t3_47, t3_60, t3_92, t3_255, t3_512, t3_1980, t3_2000, t3_2048, t3_2107, t3_3600, t3_65535, t3_86399, t3_1000000, t6_m3, t6_m2, t6_0, t6_1, t6_2, t6_8, t6_12, t6_16, t6_20, t6_30, t6_31, t6_40, t6_45, t6_47, t6_255, t6_1980, t6_2107, t6_65535, t6_86399, t6_1000000, t6_33639248, t6_67324752, t6_101010256, t6_134695760, t6_4294967295, nI_toInt, i64_toInt, f_in, if_pos, if_neg, if_true, if_false]
      rw [show (0 : Int32) = nI 0 from rfl, f_spr a hk (by rw [ln_18]; omega) (by decide), cal_s]
    · show f_X5_comment (sI (wrX M 18 0 a k k) 0 5 (nI k)) 91 a (nI k) = _
      unfold f_X5_comment
      simp (disch := omega) only [cal_s, bnd_s, bndV_s, chZ_0, chZ_1, rf_0_0, rf_0_1, rf_0_2, rf_0_3, rf_2_0, rf_4_0, rf_4_1, rf_91_3, rf_91_4, rf_91_5, rf_91_6, rf_91_7, rf_91_8, rf_91_9, rf_91_10, rf_91_11, rf_91_12, rf_91_13, rf_91_14, rf_91_15, rf_91_16, rf_91_17, rf_91_18, rf_91_19, rf_91_20, rf_91_21, rf_91_23, rf_91_33, rf_91_42, rf_91_43, rf_E, rf_R, rf_e0, rf_e1, rf_e2, rf_e3, rf_e4, ln_e0, ln_e1, ln_e2, ln_e3, ln_e4, mu_16, mu_40, mu_3, mu_8, um_8, nI_add, nI_1, chk_n, ln_1, ln_3, ln_5, ln_18, ln_92, ln_93, ln_94, ln_95, ln_96, ln_97, ln_98, ln_99, ln_100, ln_101, ln_102, ln_103, ln_104, ln_105, ln_106, ln_107, ln_108, ln_109, ln_110, ln_111, ln_112, ln_113, ln_114, nI_clamp, sI_ne, sI_eq, ltc, lec, eqc, t3_m306674912, t3_m30, t3_m10, t3_m5, t3_m4, t3_m3, t3_m2, t3_m1, t3_0, t3_1, t3_2, t3_3, t3_4, t3_5, t3_6, t3_7, t3_8, t3_9, t3_10, t3_11, t3_12, t3_13, t3_14, t3_15, t3_16, t3_17, t3_18, t3_19, t3_20, t3_22, t3_24, t3_26, t3_28, t3_30, t3_31, t3_32, t3_38, t3_40, t3_42, t3_46, t3_47, t3_60, t3_92, t3_255, t3_512, t3_1980, t3_2000, t3_2048, t3_2107, t3_3600, t3_65535, t3_86399, t3_1000000, t6_m3, t6_m2, t6_0, t6_1, t6_2, t6_8, t6_12, t6_16, t6_20, t6_30, t6_31, t6_40, t6_45, t6_47, t6_255, t6_1980, t6_2107, t6_65535, t6_86399, t6_1000000, t6_33639248, t6_67324752, t6_101010256, t6_134695760, t6_4294967295, nI_toInt, i64_toInt, f_in, if_pos, if_neg, if_true, if_false]
      unfold l_X5_comment_23
      refine lp_for _ (fun j => wrY (sI (sI (wrX M 18 0 a k k) 0 5 (nI k)) 91 0 0) 110 0 a k j) k _ (fun kb j hj => ?_) (fun kb => ?_) FU 0 (by omega) (by unfold FU; omega)
      · show g_X5_comment_23 _ kb 91 a (nI k) (nI j) _ = _
        unfold g_X5_comment_23
        rw [if_neg (nI_ge hj (by omega)), f_byt a hk hj, cal_s, rf_91_21, chk_n _ (by rw [ln_110]; omega) (by decide), bnd_s, bndV_s, nI_1, nI_clamp (by omega)]
        show kb (nI (j + 1), sI _ 110 j _) = kb (nI (j + 1), sI _ 110 (0 + j) _)
        rw [Nat.zero_add]
      · show g_X5_comment_23 _ kb 91 a (nI k) (nI k) _ = _
        unfold g_X5_comment_23
        rw [if_pos (nI_le (Nat.le_refl k) (by omega))]
    · have hX : WX ((91, 22, nI k) :: wl 110 0 a k k) M (sI (wrX M 18 0 a k k) 0 5 (nI k)) := (wrX_w (M := M) (x := 18) (y := 0) (r := 110) (q := 0) (a := a) (n := k) (by unfold byr; omega) k (fun i hi => ⟨Or.inr ⟨by omega, by omega, show 0 + i < 12 by omega⟩, rfl⟩)).cons (a0 := 91) (k0 := 22) (vd_h (by omega)) (msk_id (by omega))
      have hY : WY ((91, 22, nI k) :: wl 110 0 a k k) (sI (wrX M 18 0 a k k) 0 5 (nI k)) (sI (wrY (sI (sI (wrX M 18 0 a k k) 0 5 (nI k)) 91 0 0) 110 0 a k k) 91 22 (nI k)) := by
        have h3 := (((WY.nil (M := sI (wrX M 18 0 a k k) 0 5 (nI k))).scr (x := 91) (y := 0) (v := 0) (by omega)).trans (wrY_w (M := sI (sI (wrX M 18 0 a k k) 0 5 (nI k)) 91 0 0) (r := 110) (q := 0) (a := a) (n := k) (by omega) k)).cons (a0 := 91) (k0 := 22) (w := nI k) (by omega)
        rw [List.append_nil] at h3
        exact h3
      have hm : ∀ w ∈ wl 110 0 a k k, w.1 = 110 ∧ 0 ≤ w.2.1 ∧ w.2.1 < 0 + k ∧ isB w.2.2 := fun w hw => wl_mem k hw
      obtain ⟨i1, i2, i3, i4, i5⟩ := hi
      refine ⟨n, z, k, WXY.gen hX hY (((wrY_xb (((wrX_xb i5 k).up (by omega)).up (by omega)) (by omega) k).up (by omega))) (i4.ups ?_) ?_ (i2.ups ?_ ?_) (fun i hi => (i3 i hi).ups ?_ ?_)⟩
      · intro w hw; rcases List.mem_cons.mp hw with e | hw
        · subst e; intro q; simp at q
        · intro q; have := (hm w hw).1; omega
      · refine ⟨i1.1, i1.2.1, by omega, ?_, ?_, rfl⟩
        · show (if 91 = 91 ∧ 2 = 22 then nI k else ups (wl 110 0 a k k) M.1 91 2) = _
          rw [if_neg (by omega), ups_no (fun w hw e => by have := (hm w hw).1; omega)]
          exact i1.2.2.2.1
        · show (if 91 = 91 ∧ 24 = 22 then nI k else ups (wl 110 0 a k k) M.1 91 24) = _
          rw [if_neg (by omega), ups_no (fun w hw e => by have := (hm w hw).1; omega)]
          exact i1.2.2.2.2.1
      · intro w hw; rcases List.mem_cons.mp hw with e | hw
        · subst e; intro q; simp [byr] at q
        · intro _; exact (hm w hw).2.2.2
      · intro w hw; rcases List.mem_cons.mp hw with e | hw
        · subst e; intro q; simp at q
        · intro q; have := (hm w hw).1; omega
      · intro w hw; rcases List.mem_cons.mp hw with e | hw
        · subst e; intro q; simp at q
        · intro q; have := (hm w hw).1; omega
      · intro w hw; rcases List.mem_cons.mp hw with e | hw
        · subst e; intro q; simp at q
        · intro q; have := (hm w hw).1; omega
  · refine OP.read (r := -3) hi ?_ ?_
    · show f_X4_comment M 0 a x = _
      unfold f_X4_comment
      rcases (show x.toInt < 0 ∨ 8 < x.toInt by omega) with q | q <;> simp (disch := omega) only [cal_s, bnd_s, bndV_s, chZ_0, chZ_1, rf_0_0, rf_0_1, rf_0_2, rf_0_3, rf_2_0, rf_4_0, rf_4_1, rf_91_3, rf_91_4, rf_91_5, rf_91_6, rf_91_7, rf_91_8, rf_91_9, rf_91_10, rf_91_11, rf_91_12, rf_91_13, rf_91_14, rf_91_15, rf_91_16, rf_91_17, rf_91_18, rf_91_19, rf_91_20, rf_91_21, rf_91_23, rf_91_33, rf_91_42, rf_91_43, rf_E, rf_R, rf_e0, rf_e1, rf_e2, rf_e3, rf_e4, ln_e0, ln_e1, ln_e2, ln_e3, ln_e4, mu_16, mu_40, mu_3, mu_8, um_8, nI_add, nI_1, chk_n, ln_1, ln_3, ln_5, ln_18, ln_92, ln_93, ln_94, ln_95, ln_96, ln_97, ln_98, ln_99, ln_100, ln_101, ln_102, ln_103, ln_104, ln_105, ln_106, ln_107, ln_108, ln_109, ln_110, ln_111, ln_112, ln_113, ln_114, nI_clamp, sI_ne, sI_eq, ltc, lec, eqc, t3_m306674912, t3_m30, t3_m10, t3_m5, t3_m4, t3_m3, t3_m2, t3_m1, t3_0, t3_1, t3_2, t3_3, t3_4, t3_5, t3_6, t3_7, t3_8, t3_9, t3_10, t3_11, t3_12, t3_13, t3_14, t3_15, t3_16, t3_17, t3_18, t3_19, t3_20, t3_22, t3_24, t3_26, t3_28, t3_30, t3_31, t3_32, t3_38, t3_40, t3_42, t3_46, t3_47, t3_60, t3_92, t3_255, t3_512, t3_1980, t3_2000, t3_2048, t3_2107, t3_3600, t3_65535, t3_86399, t3_1000000, t6_m3, t6_m2, t6_0, t6_1, t6_2, t6_8, t6_12, t6_16, t6_20, t6_30, t6_31, t6_40, t6_45, t6_47, t6_255, t6_1980, t6_2107, t6_65535, t6_86399, t6_1000000, t6_33639248, t6_67324752, t6_101010256, t6_134695760, t6_4294967295, nI_toInt, i64_toInt, f_in, if_pos, if_neg, if_true, if_false]
    · show f_X5_comment M 91 a x = _
      unfold f_X5_comment
      rw [bnd_s, f_in, cal_s, i64_toInt, t6_0, t6_8, if_neg hr, if_pos rfl]
