theorem ups_in {l : List (Nat × Nat × Int32)} {f g : Nat → Nat → Int32} {a k : Nat} (h : ∃ w ∈ l, a = w.1 ∧ k = w.2.1) : ups l f a k = ups l g a k := by
  induction l with
  | nil => obtain ⟨w, hw, _⟩ := h; cases hw
  | cons w t ih =>
    show (if a = w.1 ∧ k = w.2.1 then w.2.2 else ups t f a k) = if a = w.1 ∧ k = w.2.1 then w.2.2 else ups t g a k
    by_cases q : a = w.1 ∧ k = w.2.1
    · rw [if_pos q, if_pos q]
    · rw [if_neg q, if_neg q]
      obtain ⟨v, hv, e⟩ := h
      rcases List.mem_cons.mp hv with e2 | hv
      · subst e2; exact absurd e q
      · exact ih ⟨v, hv, e⟩
/-- one entry more: every number of it has been written -/
theorem RE_upsN {σx σ : Nat → Nat → Int32} {n : Nat} {l : List (Nat × Nat × Int32)} (h : RE σx σ n) (h1 : ∀ a, (a = 92 ∨ a = 93 ∨ a = 95 ∨ a = 96 ∨ a = 97 ∨ a = 98 ∨ a = 99 ∨ a = 103 ∨ a = 104 ∨ a = 106 ∨ a = 107 ∨ a = 108 ∨ a = 109) → ∃ w ∈ l, a = w.1 ∧ n = w.2.1) (h2 : ∀ w ∈ l, w.1 = 92 → w.2.1 = n) : RE (ups l σx) (ups l σ) (n + 1) := by
  intro a k hv ho
  by_cases q : ∃ w ∈ l, a = w.1 ∧ k = w.2.1
  · exact ups_in q
  · rw [ups_no (fun w hw e => q ⟨w, hw, e⟩), ups_no (fun w hw e => q ⟨w, hw, e⟩)]
    refine h a k hv ⟨fun ha => ?_, fun ha => ?_⟩
    · have h3 := ho.1 ha
      rcases Nat.lt_or_ge k n with h4 | h4
      · exact h4
      · have e : k = n := by omega
        exact absurd (by have := h1 a ha; rw [← e] at this; exact this) q
    · have h3 := ho.2 ha
      rw [ups_no (fun w hw e => ?_)] at h3
      · exact h3
      · have h4 := h2 w hw e.1.symm
        have h5 := h1 106 (by omega)
        rw [← h4, ← e.2] at h5
        exact q (by rw [ha]; exact h5)
theorem wl_in {r p : Nat} {a : Int64} {n j k : Nat} {f g : Nat → Nat → Int32} (h : p ≤ k) (h2 : k < p + j) : ups (wl r p a n j) f r k = ups (wl r p a n j) g r k := by
  induction j with
  | zero => omega
  | succ j ih =>
    show (if r = r ∧ k = p + j then _ else ups (wl r p a n j) f r k) = if r = r ∧ k = p + j then _ else ups (wl r p a n j) g r k
    by_cases q : r = r ∧ k = p + j
    · rw [if_pos q, if_pos q]
    · rw [if_neg q, if_neg q]
      exact ih (by omega)
/-- a new entry's numbers: as ZipForms sets them, as the reference does -/
def lbX (n : Nat) (κ φ : Int32) : List (Nat × Nat × Int32) := [(109, n, -1), (98, n, 0), (97, n, 0), (96, n, 0), (107, n, 0), (106, n, 0), (108, n, 0), (103, n, 0), (99, n, 0), (104, n, 0), (95, n, 0), (93, n, φ), (92, n, κ)]
def lbY (n : Nat) (κ φ : Int32) : List (Nat × Nat × Int32) := [(93, n, φ), (92, n, κ), (109, n, -1), (108, n, 0), (107, n, 0), (106, n, 0), (104, n, 0), (103, n, 0), (99, n, 0), (98, n, 0), (97, n, 0), (96, n, 0), (95, n, 0)]
theorem ups_val {l : List (Nat × Nat × Int32)} {σ : Nat → Nat → Int32} {a k : Nat} {v : Int32} (h1 : ∃ w ∈ l, a = w.1 ∧ k = w.2.1) (h2 : ∀ w ∈ l, a = w.1 → k = w.2.1 → w.2.2 = v) : ups l σ a k = v := by
  induction l with
  | nil => obtain ⟨w, hw, _⟩ := h1; cases hw
  | cons w t ih =>
    show (if a = w.1 ∧ k = w.2.1 then w.2.2 else ups t σ a k) = v
    by_cases q : a = w.1 ∧ k = w.2.1
    · rw [if_pos q]
      exact h2 w List.mem_cons_self q.1 q.2
    · rw [if_neg q]
      obtain ⟨u, hu, e⟩ := h1
      rcases List.mem_cons.mp hu with e2 | hu
      · subst e2; exact absurd e q
      · exact ih ⟨u, hu, e⟩ (fun w hw => h2 w (List.mem_cons_of_mem _ hw))
def lbV (κ φ : Int32) (a : Nat) : Int32 := if a = 92 then κ else if a = 93 then φ else if a = 109 then -1 else 0
def lbR (a : Nat) : Prop := a = 92 ∨ a = 93 ∨ a = 95 ∨ a = 96 ∨ a = 97 ∨ a = 98 ∨ a = 99 ∨ a = 103 ∨ a = 104 ∨ a = 106 ∨ a = 107 ∨ a = 108 ∨ a = 109
theorem lbX_mem {n : Nat} {κ φ : Int32} {w : Nat × Nat × Int32} (h : w ∈ lbX n κ φ) : lbR w.1 ∧ w.2.1 = n ∧ w.2.2 = lbV κ φ w.1 := by
  unfold lbX at h
  simp only [List.mem_cons, List.not_mem_nil, or_false] at h
  rcases h with e | e | e | e | e | e | e | e | e | e | e | e | e <;> subst e <;> exact ⟨by unfold lbR; omega, rfl, rfl⟩
theorem lbY_mem {n : Nat} {κ φ : Int32} {w : Nat × Nat × Int32} (h : w ∈ lbY n κ φ) : lbR w.1 ∧ w.2.1 = n ∧ w.2.2 = lbV κ φ w.1 := by
  unfold lbY at h
  simp only [List.mem_cons, List.not_mem_nil, or_false] at h
  rcases h with e | e | e | e | e | e | e | e | e | e | e | e | e <;> subst e <;> exact ⟨by unfold lbR; omega, rfl, rfl⟩
theorem lbX_has {n : Nat} {κ φ : Int32} {a : Nat} (h : lbR a) : (a, n, lbV κ φ a) ∈ lbX n κ φ := by
  unfold lbX
  simp only [List.mem_cons, List.not_mem_nil, or_false]
  rcases h with e | e | e | e | e | e | e | e | e | e | e | e | e <;> subst e <;> simp [lbV]
theorem lbY_has {n : Nat} {κ φ : Int32} {a : Nat} (h : lbR a) : (a, n, lbV κ φ a) ∈ lbY n κ φ := by
  unfold lbY
  simp only [List.mem_cons, List.not_mem_nil, or_false]
  rcases h with e | e | e | e | e | e | e | e | e | e | e | e | e <;> subst e <;> simp [lbV]
theorem lb_at {n : Nat} {κ φ : Int32} {σ : Nat → Nat → Int32} {a : Nat} (h : lbR a) : ups (lbX n κ φ) σ a n = lbV κ φ a := ups_val ⟨_, lbX_has h, rfl, rfl⟩ (fun w hw e _ => by rw [(lbX_mem hw).2.2, ← e])
theorem lb_no {n : Nat} {κ φ : Int32} {σ : Nat → Nat → Int32} {a k : Nat} (h : k ≠ n ∨ ¬ lbR a) : ups (lbX n κ φ) σ a k = σ a k := ups_no (fun w hw e => by
  obtain ⟨h1, h2, _⟩ := lbX_mem hw
  rcases h with h | h
  · omega
  · exact h (by rw [e.1]; exact h1))
theorem lb_eq (n : Nat) (κ φ : Int32) (σ : Nat → Nat → Int32) (a k : Nat) : ups (lbX n κ φ) σ a k = ups (lbY n κ φ) σ a k := by
  by_cases h : k = n ∧ lbR a
  · obtain ⟨h1, h2⟩ := h
    subst h1
    rw [lb_at h2]
    exact (ups_val ⟨_, lbY_has h2, rfl, rfl⟩ (fun w hw e _ => by rw [(lbY_mem hw).2.2, ← e])).symm
  · have hq : k ≠ n ∨ ¬ lbR a := by
      by_cases q : k = n
      · exact Or.inr (fun z => h ⟨q, z⟩)
      · exact Or.inl q
    rw [lb_no hq]
    exact (ups_no (fun w hw e => by
      obtain ⟨h1, h2, _⟩ := lbY_mem hw
      exact h ⟨by omega, by rw [e.1]; exact h1⟩)).symm
def e13 (M : Me) (e : Nat) (κ φ : Int32) : Me := sI (sI (sI (sI (sI (sI (sI (sI (sI (sI (sI (sI (sI M e 5 κ) e 6 φ) e 7 0) e 8 0) e 9 0) e 10 0) e 11 0) e 12 0) e 13 0) e 14 0) e 15 0) e 16 0) e 17 (-1)
theorem e13_w {M : Me} {n : Nat} {κ φ : Int32} (hn : n < 12) : WX (lbX n κ φ) M (e13 M (19 + 6 * n) κ φ) := ((((((((((((((WX.nil (M := M)).cons (a0 := 92) (k0 := n) (vd_s (by omega) hn) (v := κ) (msk_id (by omega))).cons (a0 := 93) (k0 := n) (vd_s (by omega) hn) (v := φ) (msk_id (by omega))).cons (a0 := 95) (k0 := n) (vd_s (by omega) hn) (v := 0) (msk_id (by omega))).cons (a0 := 104) (k0 := n) (vd_s (by omega) hn) (v := 0) (msk_id (by omega))).cons (a0 := 99) (k0 := n) (vd_s (by omega) hn) (v := 0) (msk_id (by omega))).cons (a0 := 103) (k0 := n) (vd_s (by omega) hn) (v := 0) (msk_id (by omega))).cons (a0 := 108) (k0 := n) (vd_s (by omega) hn) (v := 0) (msk_id (by omega))).cons (a0 := 106) (k0 := n) (vd_s (by omega) hn) (v := 0) (msk_id (by omega))).cons (a0 := 107) (k0 := n) (vd_s (by omega) hn) (v := 0) (msk_id (by omega))).cons (a0 := 96) (k0 := n) (vd_s (by omega) hn) (v := 0) (msk_id (by omega))).cons (a0 := 97) (k0 := n) (vd_s (by omega) hn) (v := 0) (msk_id (by omega))).cons (a0 := 98) (k0 := n) (vd_s (by omega) hn) (v := 0) (msk_id (by omega))).cons (a0 := 109) (k0 := n) (vd_s (by omega) hn) (v := -1) (msk_id (by omega)))
theorem e13_ne {M : Me} {e : Nat} {κ φ : Int32} {b k : Nat} (h : b ≠ e) : (e13 M e κ φ).1 b k = M.1 b k := by
  unfold e13
  simp (disch := omega) only [sI_ne]
theorem e13_5 {M : Me} {e : Nat} {κ φ : Int32} : (e13 M e κ φ).1 e 5 = κ := by
  unfold e13
  simp (disch := omega) only [sI_ne, sI_eq]
theorem e13_7 {M : Me} {e : Nat} {κ φ : Int32} : (e13 M e κ φ).1 e 7 = 0 := by
  unfold e13
  simp (disch := omega) only [sI_ne, sI_eq]
theorem e13_xb {M : Me} {n : Nat} {κ φ : Int32} (h : XB M) : XB (e13 M (19 + 6 * n) κ φ) := ((((((((((((h.up (by omega)).up (by omega)).up (by omega)).up (by omega)).up (by omega)).up (by omega)).up (by omega)).up (by omega)).up (by omega)).up (by omega)).up (by omega)).up (by omega)).up (by omega)
def y13 (M : Me) (n : Nat) (κ φ : Int32) : Me := sI (sI (sI (sI (sI (sI (sI (sI (sI (sI (sI (sI (sI M 95 n 0) 96 n 0) 97 n 0) 98 n 0) 99 n 0) 103 n 0) 104 n 0) 106 n 0) 107 n 0) 108 n 0) 109 n (-1)) 92 n κ) 93 n φ
theorem y13_w {M : Me} {n : Nat} {κ φ : Int32} : WY (lbX n κ φ) M (y13 M n κ φ) := by
  have h : WY (lbY n κ φ) M (y13 M n κ φ) := (((((((((((((WY.nil.cons (by omega)).cons (by omega)).cons (by omega)).cons (by omega)).cons (by omega)).cons (by omega)).cons (by omega)).cons (by omega)).cons (by omega)).cons (by omega)).cons (by omega)).cons (by omega)).cons (by omega))
  exact ⟨h.1, fun a k hr => (h.2 a k hr).trans (lb_eq n κ φ _ a k).symm⟩
theorem y13_xb {M : Me} {n : Nat} {κ φ : Int32} (h : XB M) : XB (y13 M n κ φ) := ((((((((((((h.up (by omega)).up (by omega)).up (by omega)).up (by omega)).up (by omega)).up (by omega)).up (by omega)).up (by omega)).up (by omega)).up (by omega)).up (by omega)).up (by omega)).up (by omega)
theorem f_beginX {M : Me} {n : Nat} {κ φ : Int32} (hk : ¬ κ = 2) : f_X0_begin M (19 + 6 * n) κ φ = some ((), e13 M (19 + 6 * n) κ φ) := by
  unfold f_X0_begin
  simp (disch := omega) only [bnd_s, chZ_0, hk, if_false]
  rfl
theorem f_beginX2 {M : Me} {n : Nat} {φ : Int32} (hn : n < 12) : f_X0_begin M (19 + 6 * n) 2 φ = some ((), sI (sI (e13 M (19 + 6 * n) 2 φ) (20 + 6 * n) 0 47) (19 + 6 * n) 7 1) := by
  unfold f_X0_begin
  simp (disch := omega) only [bnd_s, chZ_0, if_true, rf_e0, b47]
  rw [show (0 : Int32) = nI 0 from rfl, chk_n _ (by rw [ln_e0 hn]; omega) (by rw [ln_e0 hn]; decide), nI_clamp (by decide)]
  rfl
theorem f_beginY {M : Me} {n : Nat} (hn : n < 12) : f_X5_begin M 91 (nI n) = some ((), sI (sI (sI (sI (sI (sI (sI (sI (sI (sI (sI M 95 n 0) 96 n 0) 97 n 0) 98 n 0) 99 n 0) 103 n 0) 104 n 0) 106 n 0) 107 n 0) 108 n 0) 109 n (-1)) := by
  unfold f_X5_begin
  simp (disch := omega) only [cal_s, bnd_s, bndV_s, chZ_0, chZ_1, rf_0_0, rf_0_1, rf_0_2, rf_0_3, rf_2_0, rf_4_0, rf_4_1, rf_91_3, rf_91_4, rf_91_5, rf_91_6, rf_91_7, rf_91_8, rf_91_9, rf_91_10, rf_91_11, rf_91_12, rf_91_13, rf_91_14, rf_91_15, rf_91_16, rf_91_17, rf_91_18, rf_91_19, rf_91_20, rf_91_21, rf_91_23, rf_91_33, rf_91_42, rf_91_43, rf_E, rf_R, rf_e0, rf_e1, rf_e2, rf_e3, rf_e4, ln_e0, ln_e1, ln_e2, ln_e3, ln_e4, mu_16, mu_40, mu_3, mu_8, um_8, nI_add, nI_1, chk_n, ln_1, ln_3, ln_5, ln_18, ln_92, ln_93, ln_94, ln_95, ln_96, ln_97, ln_98, ln_99, ln_100, ln_101, ln_102, ln_103, ln_104, ln_105, ln_106, ln_107, ln_108, ln_109, ln_110, ln_111, ln_112, ln_113, ln_114, nI_clamp, sI_ne, sI_eq, ltc, lec, eqc, t3_m306674912, t3_m30, t3_m10, t3_m5, t3_m4, t3_m3, t3_m2, t3_m1, t3_0, t3_1, t3_2, t3_3, t3_4, t3_5, t3_6, t3_7, t3_8, t3_9, t3_10, t3_11, t3_12, t3_13, t3_14, t3_15, t3_16, t3_17, t3_18, t3_19, t3_20, t3_22, t3_24, t3_26, t3_28, t3_30, t3_31, t3_32, t3_38, t3_40, t3_42, t3_46, t3_47, t3_60, t3_92, t3_255, t3_512, t3_1980, t3_2000, t3_2048, t3_2107, t3_3600, t3_65535, t3_86399, t3_1000000, t6_m3, t6_m2, t6_0, t6_1, t6_2, t6_8, t6_12, t6_16, t6_20, t6_30, t6_31, t6_40, t6_45, t6_47, t6_255, t6_1980, t6_2107, t6_65535, t6_86399, t6_1000000, t6_33639248, t6_67324752, t6_101010256, t6_134695760, t6_4294967295, nI_toInt, i64_toInt, f_in, if_pos, if_neg, if_true, if_false, nz_0]
/-- what an entry's making writes, kind by kind -/
def enL (n k : Nat) (κ φ : Int32) (a : Int64) (fo : Bool) : List (Nat × Nat × Int32) := (91, 2, nI (n + 1)) :: ((if fo then [(94, 16 * n + k, nI 47), (95, n, nI (k + 1))] else [(95, n, nI k)]) ++ (wl 94 (16 * n) a k k ++ lbX n κ φ))
theorem enL_mem {n k : Nat} {κ φ : Int32} {a : Int64} {fo : Bool} {w : Nat × Nat × Int32} (h : w ∈ enL n k κ φ a fo) : (w.1 = 91 ∧ w.2.1 = 2) ∨ (w.1 = 94 ∧ 16 * n ≤ w.2.1 ∧ w.2.1 ≤ 16 * n + k ∧ isB w.2.2) ∨ (lbR w.1 ∧ w.2.1 = n) := by
  unfold enL at h
  rcases List.mem_cons.mp h with e | h
  · subst e; exact Or.inl ⟨rfl, rfl⟩
  · rcases List.mem_append.mp h with h | h
    · cases fo
      · simp at h; subst h; exact Or.inr (Or.inr ⟨by unfold lbR; omega, rfl⟩)
      · simp at h
        rcases h with e | e <;> subst e
        · exact Or.inr (Or.inl ⟨rfl, by show 16 * n ≤ 16 * n + k; omega, Nat.le_refl _, ⟨47, by decide, rfl⟩⟩)
        · exact Or.inr (Or.inr ⟨by unfold lbR; omega, rfl⟩)
    · rcases List.mem_append.mp h with h | h
      · obtain ⟨h1, h2, h3, h4⟩ := wl_mem k h
        exact Or.inr (Or.inl ⟨h1, h2, by omega, h4⟩)
      · obtain ⟨h1, h2, _⟩ := lbX_mem h
        exact Or.inr (Or.inr ⟨h1, h2⟩)
theorem enL_iv {M M1 M2 : Me} {n z c k : Nat} {κ φ : Int32} {a : Int64} {fo : Bool} (hX : WX (enL n k κ φ a fo) M M1) (hY : WY (enL n k κ φ a fo) M1 M2) (hxb : XB M2) (hi : IV M n z c) (hn : n < 12) (hk1 : 1 ≤ k) (hk : k ≤ 8) (hκ : κ = 0 ∨ κ = 1 ∨ κ = 2) (hφ : φ = 0 ∨ φ = 1 ∨ φ = 2) : IV M2 (n + 1) z c := by
  obtain ⟨i1, i2, i3, i4, i5⟩ := hi
  have key : ∀ a0 k0 : Nat, (lbR a0 ∧ a0 ≠ 95 ∧ k0 = n) → ups (enL n k κ φ a fo) M.1 a0 k0 = lbV κ φ a0 := by
    intro a0 k0 h
    obtain ⟨h1, h2, h3⟩ := h
    subst h3
    have hne : a0 ≠ 91 ∧ a0 ≠ 94 := by unfold lbR at h1; omega
    unfold enL
    show (if a0 = 91 ∧ k0 = 2 then _ else _) = _
    rw [if_neg (by omega), ups_app]
    have h4 : ∀ f : Nat → Nat → Int32, ups (if fo then [(94, 16 * k0 + k, nI 47), (95, k0, nI (k + 1))] else [(95, k0, nI k)]) f a0 k0 = f a0 k0 := by
      intro f
      refine ups_no (fun w hw e => ?_)
      cases fo <;> simp at hw
      · subst hw; exact h2 e.1
      · rcases hw with e2 | e2 <;> subst e2
        · exact hne.2 e.1
        · exact h2 e.1
    rw [h4, ups_app, wl_no (by omega), lb_at h1]
  have key95 : ∃ nl, 1 ≤ nl ∧ nl ≤ 16 ∧ ups (enL n k κ φ a fo) M.1 95 n = nI nl := by
    unfold enL
    cases fo
    · refine ⟨k, hk1, by omega, ?_⟩
      show (if 95 = 91 ∧ n = 2 then _ else if 95 = 95 ∧ n = n then nI k else _) = _
      rw [if_neg (by omega), if_pos ⟨rfl, rfl⟩]
    · refine ⟨k + 1, by omega, by omega, ?_⟩
      show (if 95 = 91 ∧ n = 2 then _ else if 95 = 94 ∧ n = 16 * n + k then _ else if 95 = 95 ∧ n = n then nI (k + 1) else _) = _
      rw [if_neg (by omega), if_neg (by omega), if_pos ⟨rfl, rfl⟩]
  refine WXY.gen hX hY hxb (RE_upsN i4 (fun a0 h0 => ?_) (fun w hw q => ?_)) ⟨by omega, i1.2.1, i1.2.2.1, ?_, ?_, ?_⟩ (i2.ups (fun w hw q => ?_) (fun w hw q => ?_)) (fun i hi => ?_)
  · exact ⟨_, List.mem_cons_of_mem _ (List.mem_append_right _ (List.mem_append_right _ (lbX_has (κ := κ) (φ := φ) (n := n) h0))), rfl, rfl⟩
  · rcases enL_mem hw with h | h | h
    · omega
    · omega
    · exact h.2
  · show (if 91 = 91 ∧ 2 = 2 then nI (n + 1) else _) = _
    rw [if_pos ⟨rfl, rfl⟩]
  · rw [ups_no (fun w hw e => by rcases enL_mem hw with h | h | h <;> first | omega | (have := h.1; unfold lbR at this; omega))]
    exact i1.2.2.2.2.1
  · rw [ups_no (fun w hw e => by rcases enL_mem hw with h | h | h <;> first | omega | (have := h.1; unfold lbR at this; omega))]
    exact i1.2.2.2.2.2
  · unfold byr at q
    rcases enL_mem hw with h | h | h
    · omega
    · exact h.2.2.2
    · have := h.1; unfold lbR at this; omega
  · rcases enL_mem hw with h | h | h
    · omega
    · omega
    · have := h.1; unfold lbR at this; omega
  · rcases Nat.lt_or_ge i n with hin | hin
    · refine (i3 i hin).ups (fun w hw q => ?_) (fun w hw q => ?_)
      · rcases enL_mem hw with h | h | h <;> omega
      · rcases enL_mem hw with h | h | h
        · omega
        · omega
        · have := h.1; unfold lbR at this; omega
    · have e : i = n := by omega
      subst e
      obtain ⟨nl, h1, h2, h3⟩ := key95
      refine ⟨nl, 0, 0, h1, h2, by omega, by omega, h3, ?_⟩
      rw [key 104 i ⟨by unfold lbR; omega, by omega, rfl⟩, key 99 i ⟨by unfold lbR; omega, by omega, rfl⟩, key 92 i ⟨by unfold lbR; omega, by omega, rfl⟩, key 93 i ⟨by unfold lbR; omega, by omega, rfl⟩, key 103 i ⟨by unfold lbR; omega, by omega, rfl⟩, key 108 i ⟨by unfold lbR; omega, by omega, rfl⟩, key 109 i ⟨by unfold lbR; omega, by omega, rfl⟩]
      exact ⟨nI_0.symm, nI_0.symm, hκ, hφ, Or.inl rfl, Or.inl rfl, fun _ => ⟨rfl, rfl⟩, Or.inl rfl, fun p hp => by omega⟩
