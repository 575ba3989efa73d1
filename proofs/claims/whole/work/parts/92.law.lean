/-! THE LAW -/
theorem inv_of {M : Me} (hh : M.1 91 2 = 0 ∧ M.1 91 24 = 0 ∧ M.1 91 22 = 0 ∧ M.1 0 6 = M.1 91 1 ∧ M.1 0 4 = M.1 91 2 ∧ M.1 0 5 = M.1 91 22 ∧ M.1 2 1 = M.1 91 24 ∧ M.1 0 7 = M.1 91 26) (hy : (∀ k, k < 192 → M.1 94 k = 0) ∧ (∀ k, k < 36 → M.1 100 k = 0) ∧ (∀ k, k < 36 → M.1 101 k = 0) ∧ (∀ k, k < 288 → M.1 102 k = 0) ∧ (∀ k, k < 480 → M.1 105 k = 0) ∧ (∀ k, k < 12 → M.1 110 k = 0)) (hx : (∀ k, k < 12 → M.1 18 k = 0) ∧ ∀ i, i < 12 → (∀ k, k < 16 → M.1 (20 + 6 * i) k = 0) ∧ (∀ k, k < 40 → M.1 (21 + 6 * i) k = 0) ∧ (∀ k, k < 3 → M.1 (22 + 6 * i) k = 0) ∧ (∀ k, k < 3 → M.1 (23 + 6 * i) k = 0) ∧ (∀ k, k < 24 → M.1 (24 + 6 * i) k = 0)) (hb : (∀ k, k < 2000 → M.1 3 k = 0) ∧ ∀ k, k < 2100 → M.1 111 k = 0) : INV M := by
  obtain ⟨h1, h2, h3, h4, h5, h6, h7, h8⟩ := hh
  obtain ⟨y1, y2, y3, y4, y5, y6⟩ := hy
  obtain ⟨x1, x2⟩ := hx
  obtain ⟨b1, b2⟩ := hb
  have z0 : isB 0 := ⟨0, by decide, rfl⟩
  have a0 : (0 : Int32) &&& 255 = 0 := by decide
  refine ⟨0, 0, 0, ⟨by decide, by decide, by decide, h1, h2, h3⟩, ⟨fun k hk => by rw [y1 k hk]; exact z0, fun k hk => by rw [y4 k hk]; exact z0, fun k hk => by rw [y5 k hk]; exact z0, fun k hk => by rw [y6 k hk]; exact z0, fun k hk => by rw [b2 k (by omega)]; exact z0, fun k _ hk => b2 k hk⟩, fun i hi => by omega, fun a k hv ho => ?_, fun i k hi hk => ?_⟩
  · rcases hv with ⟨ha, hk⟩ | ⟨g1, g2, hk⟩
    · subst ha
      rcases hk with hk | hk | hk | hk | hk <;> subst hk
      · exact h4
      · exact h5
      · exact h6
      · exact h7
      · exact h8
    · have hob := ho.1
      rcases (show a = 94 ∨ a = 100 ∨ a = 101 ∨ a = 102 ∨ a = 105 ∨ a = 110 ∨ a = 111 ∨ (a = 92 ∨ a = 93 ∨ a = 95 ∨ a = 96 ∨ a = 97 ∨ a = 98 ∨ a = 99 ∨ a = 103 ∨ a = 104 ∨ a = 106 ∨ a = 107 ∨ a = 108 ∨ a = 109) by omega) with q | q | q | q | q | q | q | q
      · subst q
        have hk : k < 192 := hk
        show M.1 (20 + 6 * (k / 16)) (k % 16) &&& 255 = _
        rw [(x2 (k / 16) (by omega)).1 (k % 16) (by omega), y1 k hk, a0]
      · subst q
        have hk : k < 36 := hk
        show M.1 (22 + 6 * (k / 3)) (k % 3) = _
        rw [(x2 (k / 3) (by omega)).2.2.1 (k % 3) (by omega), y2 k hk]
      · subst q
        have hk : k < 36 := hk
        show M.1 (23 + 6 * (k / 3)) (k % 3) = _
        rw [(x2 (k / 3) (by omega)).2.2.2.1 (k % 3) (by omega), y3 k hk]
      · subst q
        have hk : k < 288 := hk
        show M.1 (24 + 6 * (k / 24)) (k % 24) &&& 255 = _
        rw [(x2 (k / 24) (by omega)).2.2.2.2 (k % 24) (by omega), y4 k hk, a0]
      · subst q
        have hk : k < 480 := hk
        show M.1 (21 + 6 * (k / 40)) (k % 40) &&& 255 = _
        rw [(x2 (k / 40) (by omega)).2.1 (k % 40) (by omega), y5 k hk, a0]
      · subst q
        have hk : k < 12 := hk
        show M.1 18 k &&& 255 = _
        rw [x1 k hk, y6 k hk, a0]
      · subst q
        have hk : k < 2000 := hk
        show M.1 3 k &&& 255 = _
        rw [b1 k hk, b2 k (by omega), a0]
      · have := hob q
        omega
  · rw [(x2 i hi).1 k hk]
    decide
theorem inv_M0 : INV M0 := inv_of m0_h m0_y m0_x m0_b
theorem lw_op {FX FY : Me → Option (Int32 × Me)} {M : Me} (h : OP FX FY M) : ∃ M', INV M' ∧ ∀ K : Me → Option (Int32 × Me), cal (FX M) (fun r M1 => cal (FY M1) (fun r' M2 => if r = r' then K M2 else chZ (0 : Int32) (some ((0 : Int32), M2)))) = K M' := by
  obtain ⟨r, M1, M2, e1, e2, hi⟩ := h
  refine ⟨M2, hi, fun K => ?_⟩
  rw [e1, cal_s, e2, cal_s, if_pos rfl]
theorem lw_opl {FX FY : Me → Option (Int64 × Me)} {M : Me} (h : OPL FX FY M) : ∃ M', INV M' ∧ ∀ K : Me → Option (Int32 × Me), cal (FX M) (fun r M1 => cal (FY M1) (fun r' M2 => if (lg_cmp r r') = (0 : Int32) then K M2 else chZ (0 : Int32) (some ((0 : Int32), M2)))) = K M' := by
  obtain ⟨r, M1, M2, e1, e2, hi⟩ := h
  refine ⟨M2, hi, fun K => ?_⟩
  rw [e1, cal_s, e2, cal_s, if_pos ((lg_cmp_eq r r).mpr rfl)]
def lwJ (L : Nat) (xs : Nat → Int32) (kx : Int32 → Me → Option (Int32 × Me)) (kb : Int32 × Me → Option (Int32 × Me)) (x3 : Int32) (M : Me) (i : Nat) : Option (Int32 × Me) := match i with
  | 0 => j_L_law_156 kx kb L xs 0 91 x3 M
  | 1 => j_L_law_239 kx kb L xs 0 91 x3 M
  | 2 => j_L_law_312 kx kb L xs 0 91 x3 M
  | 3 => j_L_law_385 kx kb L xs 0 91 x3 M
  | 4 => j_L_law_428 kx kb L xs 0 91 x3 M
  | 5 => j_L_law_511 kx kb L xs 0 91 x3 M
  | 6 => j_L_law_574 kx kb L xs 0 91 x3 M
  | 7 => j_L_law_607 kx kb L xs 0 91 x3 M
  | 8 => j_L_law_620 kx kb L xs 0 91 x3 M
  | 9 => j_L_law_683 kx kb L xs 0 91 x3 M
  | 10 => j_L_law_696 kx kb L xs 0 91 x3 M
  | 11 => j_L_law_719 kx kb L xs 0 91 x3 M
  | 12 => j_L_law_732 kx kb L xs 0 91 x3 M
  | 13 => j_L_law_745 kx kb L xs 0 91 x3 M
  | 14 => j_L_law_808 kx kb L xs 0 91 x3 M
  | 15 => j_L_law_831 kx kb L xs 0 91 x3 M
  | 16 => j_L_law_864 kx kb L xs 0 91 x3 M
  | 17 => j_L_law_887 kx kb L xs 0 91 x3 M
  | 18 => j_L_law_910 kx kb L xs 0 91 x3 M
  | 19 => j_L_law_934 kx kb L xs 0 91 x3 M
  | 20 => j_L_law_967 kx kb L xs 0 91 x3 M
  | 21 => j_L_law_1000 kx kb L xs 0 91 x3 M
  | 22 => j_L_law_1033 kx kb L xs 0 91 x3 M
  | 23 => j_L_law_1067 kx kb L xs 0 91 x3 M
  | 24 => j_L_law_1120 kx kb L xs 0 91 x3 M
  | 25 => j_L_law_1143 kx kb L xs 0 91 x3 M
  | 26 => j_L_law_1166 kx kb L xs 0 91 x3 M
  | _ => none
theorem lw_1189 (L : Nat) (xs : Nat → Int32) (kx : Int32 → Me → Option (Int32 × Me)) (kb : Int32 × Me → Option (Int32 × Me)) (j : Nat) (M : Me) : j_L_law_1189 kx kb L xs 0 91 (nI j) M = kb (nI (j + 6), M) := by
  unfold j_L_law_1189
  rw [show (6 : Int32) = nI 6 from rfl, nI_add, bndV_s]
theorem lw_case {L j : Nat} {xs : Nat → Int32} {M : Me} (hL : L ≤ 3072) (hj : j + 6 ≤ L) (h : INV M) (i : Nat) (hi : i < 27) (kx : Int32 → Me → Option (Int32 × Me)) : ∃ M', INV M' ∧ ∀ kb, lwJ L xs kx kb (nI j) M i = j_L_law_1189 kx kb L xs 0 91 (nI j) M' := by
  have c1 : ∀ {γ : Type} (X : Option γ), chk (nI j + (1 : Int32)) L X = X := fun X => by rw [nI_1]; exact chk_n X (by omega) (by omega)
  have c2 : ∀ {γ : Type} (X : Option γ), chk (nI j + (2 : Int32)) L X = X := fun X => by rw [show (2 : Int32) = nI 2 from rfl, nI_add]; exact chk_n X (by omega) (by omega)
  have c3 : ∀ {γ : Type} (X : Option γ), chk (nI j + (3 : Int32)) L X = X := fun X => by rw [show (3 : Int32) = nI 3 from rfl, nI_add]; exact chk_n X (by omega) (by omega)
  have c4 : ∀ {γ : Type} (X : Option γ), chk (nI j + (4 : Int32)) L X = X := fun X => by rw [show (4 : Int32) = nI 4 from rfl, nI_add]; exact chk_n X (by omega) (by omega)
  have c5 : ∀ {γ : Type} (X : Option γ), chk (nI j + (5 : Int32)) L X = X := fun X => by rw [show (5 : Int32) = nI 5 from rfl, nI_add]; exact chk_n X (by omega) (by omega)
  rcases (show i = 0 ∨ i = 1 ∨ i = 2 ∨ i = 3 ∨ i = 4 ∨ i = 5 ∨ i = 6 ∨ i = 7 ∨ i = 8 ∨ i = 9 ∨ i = 10 ∨ i = 11 ∨ i = 12 ∨ i = 13 ∨ i = 14 ∨ i = 15 ∨ i = 16 ∨ i = 17 ∨ i = 18 ∨ i = 19 ∨ i = 20 ∨ i = 21 ∨ i = 22 ∨ i = 23 ∨ i = 24 ∨ i = 25 ∨ i = 26 by omega) with e | e | e | e | e | e | e | e | e | e | e | e | e | e | e | e | e | e | e | e | e | e | e | e | e | e | e
  · subst e
    obtain ⟨M', hi', e⟩ := lw_op (op_entry h (xs (nI j + (1 : Int32)).toNatClampNeg) (xs (nI j + (2 : Int32)).toNatClampNeg) ((lShl (((xs (nI j + (3 : Int32)).toNatClampNeg)).toInt64) (32 : Int32)) ||| (((xs (nI j + (4 : Int32)).toNatClampNeg)).toInt64 &&& (4294967295 : Int64))) (xs (nI j + (5 : Int32)).toNatClampNeg))
    refine ⟨M', hi', fun kb => ?_⟩
    show j_L_law_156 kx kb L xs 0 91 (nI j) M = _
    unfold j_L_law_156
    simp only [c1, c2, c3, c4, c5]
    exact e (fun M => j_L_law_1189 kx kb L xs 0 91 (nI j) M)
  · subst e
    obtain ⟨M', hi', e⟩ := lw_op (op_name h (xs (nI j + (1 : Int32)).toNatClampNeg) ((lShl (((xs (nI j + (2 : Int32)).toNatClampNeg)).toInt64) (32 : Int32)) ||| (((xs (nI j + (3 : Int32)).toNatClampNeg)).toInt64 &&& (4294967295 : Int64))) (xs (nI j + (4 : Int32)).toNatClampNeg))
    refine ⟨M', hi', fun kb => ?_⟩
    show j_L_law_239 kx kb L xs 0 91 (nI j) M = _
    unfold j_L_law_239
    simp only [c1, c2, c3, c4, c5]
    exact e (fun M => j_L_law_1189 kx kb L xs 0 91 (nI j) M)
  · subst e
    obtain ⟨M', hi', e⟩ := lw_op (op_data h (xs (nI j + (1 : Int32)).toNatClampNeg) ((lShl (((xs (nI j + (2 : Int32)).toNatClampNeg)).toInt64) (32 : Int32)) ||| (((xs (nI j + (3 : Int32)).toNatClampNeg)).toInt64 &&& (4294967295 : Int64))) (xs (nI j + (4 : Int32)).toNatClampNeg))
    refine ⟨M', hi', fun kb => ?_⟩
    show j_L_law_312 kx kb L xs 0 91 (nI j) M = _
    unfold j_L_law_312
    simp only [c1, c2, c3, c4, c5]
    exact e (fun M => j_L_law_1189 kx kb L xs 0 91 (nI j) M)
  · subst e
    obtain ⟨M', hi', e⟩ := lw_op (op_packed h (xs (nI j + (1 : Int32)).toNatClampNeg) (xs (nI j + (2 : Int32)).toNatClampNeg) (xs (nI j + (3 : Int32)).toNatClampNeg))
    refine ⟨M', hi', fun kb => ?_⟩
    show j_L_law_385 kx kb L xs 0 91 (nI j) M = _
    unfold j_L_law_385
    simp only [c1, c2, c3, c4, c5]
    exact e (fun M => j_L_law_1189 kx kb L xs 0 91 (nI j) M)
  · subst e
    obtain ⟨M', hi', e⟩ := lw_op (op_part h (xs (nI j + (1 : Int32)).toNatClampNeg) (xs (nI j + (2 : Int32)).toNatClampNeg) ((lShl (((xs (nI j + (3 : Int32)).toNatClampNeg)).toInt64) (32 : Int32)) ||| (((xs (nI j + (4 : Int32)).toNatClampNeg)).toInt64 &&& (4294967295 : Int64))) (xs (nI j + (5 : Int32)).toNatClampNeg))
    refine ⟨M', hi', fun kb => ?_⟩
    show j_L_law_428 kx kb L xs 0 91 (nI j) M = _
    unfold j_L_law_428
    simp only [c1, c2, c3, c4, c5]
    exact e (fun M => j_L_law_1189 kx kb L xs 0 91 (nI j) M)
  · subst e
    obtain ⟨M', hi', e⟩ := lw_op (op_stamp h (xs (nI j + (1 : Int32)).toNatClampNeg) (xs (nI j + (2 : Int32)).toNatClampNeg) (xs (nI j + (3 : Int32)).toNatClampNeg) (xs (nI j + (4 : Int32)).toNatClampNeg) (xs (nI j + (5 : Int32)).toNatClampNeg))
    refine ⟨M', hi', fun kb => ?_⟩
    show j_L_law_511 kx kb L xs 0 91 (nI j) M = _
    unfold j_L_law_511
    simp only [c1, c2, c3, c4, c5]
    exact e (fun M => j_L_law_1189 kx kb L xs 0 91 (nI j) M)
  · subst e
    obtain ⟨M', hi', e⟩ := lw_op (op_attributes h (xs (nI j + (1 : Int32)).toNatClampNeg) (xs (nI j + (2 : Int32)).toNatClampNeg))
    refine ⟨M', hi', fun kb => ?_⟩
    show j_L_law_574 kx kb L xs 0 91 (nI j) M = _
    unfold j_L_law_574
    simp only [c1, c2, c3, c4, c5]
    exact e (fun M => j_L_law_1189 kx kb L xs 0 91 (nI j) M)
  · subst e
    obtain ⟨M', hi', e⟩ := lw_op (op_clear h)
    refine ⟨M', hi', fun kb => ?_⟩
    show j_L_law_607 kx kb L xs 0 91 (nI j) M = _
    unfold j_L_law_607
    exact e (fun M => j_L_law_1189 kx kb L xs 0 91 (nI j) M)
  · subst e
    obtain ⟨M', hi', e⟩ := lw_op (op_comment h ((lShl (((xs (nI j + (1 : Int32)).toNatClampNeg)).toInt64) (32 : Int32)) ||| (((xs (nI j + (2 : Int32)).toNatClampNeg)).toInt64 &&& (4294967295 : Int64))) (xs (nI j + (3 : Int32)).toNatClampNeg))
    refine ⟨M', hi', fun kb => ?_⟩
    show j_L_law_620 kx kb L xs 0 91 (nI j) M = _
    unfold j_L_law_620
    simp only [c1, c2, c3, c4, c5]
    exact e (fun M => j_L_law_1189 kx kb L xs 0 91 (nI j) M)
  · subst e
    obtain ⟨M', hi', e⟩ := lw_op (op_write h)
    refine ⟨M', hi', fun kb => ?_⟩
    show j_L_law_683 kx kb L xs 0 91 (nI j) M = _
    unfold j_L_law_683
    exact e (fun M => j_L_law_1189 kx kb L xs 0 91 (nI j) M)
  · subst e
    obtain ⟨M', hi', e⟩ := lw_op (op_add h (xs (nI j + (1 : Int32)).toNatClampNeg))
    refine ⟨M', hi', fun kb => ?_⟩
    show j_L_law_696 kx kb L xs 0 91 (nI j) M = _
    unfold j_L_law_696
    simp only [c1, c2, c3, c4, c5]
    exact e (fun M => j_L_law_1189 kx kb L xs 0 91 (nI j) M)
  · subst e
    obtain ⟨M', hi', e⟩ := lw_op (op_read h)
    refine ⟨M', hi', fun kb => ?_⟩
    show j_L_law_719 kx kb L xs 0 91 (nI j) M = _
    unfold j_L_law_719
    exact e (fun M => j_L_law_1189 kx kb L xs 0 91 (nI j) M)
  · subst e
    obtain ⟨M', hi', e⟩ := lw_op (op_place h)
    refine ⟨M', hi', fun kb => ?_⟩
    show j_L_law_732 kx kb L xs 0 91 (nI j) M = _
    unfold j_L_law_732
    exact e (fun M => j_L_law_1189 kx kb L xs 0 91 (nI j) M)
  · subst e
    obtain ⟨M', hi', e⟩ := lw_op (op_feed h ((lShl (((xs (nI j + (1 : Int32)).toNatClampNeg)).toInt64) (32 : Int32)) ||| (((xs (nI j + (2 : Int32)).toNatClampNeg)).toInt64 &&& (4294967295 : Int64))) (xs (nI j + (3 : Int32)).toNatClampNeg))
    refine ⟨M', hi', fun kb => ?_⟩
    show j_L_law_745 kx kb L xs 0 91 (nI j) M = _
    unfold j_L_law_745
    simp only [c1, c2, c3, c4, c5]
    exact e (fun M => j_L_law_1189 kx kb L xs 0 91 (nI j) M)
  · subst e
    obtain ⟨M', hi', e⟩ := lw_op (op_cut h (xs (nI j + (1 : Int32)).toNatClampNeg))
    refine ⟨M', hi', fun kb => ?_⟩
    show j_L_law_808 kx kb L xs 0 91 (nI j) M = _
    unfold j_L_law_808
    simp only [c1, c2, c3, c4, c5]
    exact e (fun M => j_L_law_1189 kx kb L xs 0 91 (nI j) M)
  · subst e
    obtain ⟨M', hi', e⟩ := lw_op (op_poke h (xs (nI j + (1 : Int32)).toNatClampNeg) (xs (nI j + (2 : Int32)).toNatClampNeg))
    refine ⟨M', hi', fun kb => ?_⟩
    show j_L_law_831 kx kb L xs 0 91 (nI j) M = _
    unfold j_L_law_831
    simp only [c1, c2, c3, c4, c5]
    exact e (fun M => j_L_law_1189 kx kb L xs 0 91 (nI j) M)
  · subst e
    obtain ⟨M', hi', e⟩ := lw_op (op_at h (xs (nI j + (1 : Int32)).toNatClampNeg))
    refine ⟨M', hi', fun kb => ?_⟩
    show j_L_law_864 kx kb L xs 0 91 (nI j) M = _
    unfold j_L_law_864
    simp only [c1, c2, c3, c4, c5]
    exact e (fun M => j_L_law_1189 kx kb L xs 0 91 (nI j) M)
  · subst e
    obtain ⟨M', hi', e⟩ := lw_op (op_half h (xs (nI j + (1 : Int32)).toNatClampNeg))
    refine ⟨M', hi', fun kb => ?_⟩
    show j_L_law_887 kx kb L xs 0 91 (nI j) M = _
    unfold j_L_law_887
    simp only [c1, c2, c3, c4, c5]
    exact e (fun M => j_L_law_1189 kx kb L xs 0 91 (nI j) M)
  · subst e
    obtain ⟨M', hi', e⟩ := lw_opl (op_word h (xs (nI j + (1 : Int32)).toNatClampNeg))
    refine ⟨M', hi', fun kb => ?_⟩
    show j_L_law_910 kx kb L xs 0 91 (nI j) M = _
    unfold j_L_law_910
    simp only [c1, c2, c3, c4, c5]
    exact e (fun M => j_L_law_1189 kx kb L xs 0 91 (nI j) M)
  · subst e
    obtain ⟨M', hi', e⟩ := lw_op (op_about h (xs (nI j + (1 : Int32)).toNatClampNeg) (xs (nI j + (2 : Int32)).toNatClampNeg))
    refine ⟨M', hi', fun kb => ?_⟩
    show j_L_law_934 kx kb L xs 0 91 (nI j) M = _
    unfold j_L_law_934
    simp only [c1, c2, c3, c4, c5]
    exact e (fun M => j_L_law_1189 kx kb L xs 0 91 (nI j) M)
  · subst e
    obtain ⟨M', hi', e⟩ := lw_op (op_letter h (xs (nI j + (1 : Int32)).toNatClampNeg) (xs (nI j + (2 : Int32)).toNatClampNeg))
    refine ⟨M', hi', fun kb => ?_⟩
    show j_L_law_967 kx kb L xs 0 91 (nI j) M = _
    unfold j_L_law_967
    simp only [c1, c2, c3, c4, c5]
    exact e (fun M => j_L_law_1189 kx kb L xs 0 91 (nI j) M)
  · subst e
    obtain ⟨M', hi', e⟩ := lw_op (op_octet h (xs (nI j + (1 : Int32)).toNatClampNeg) (xs (nI j + (2 : Int32)).toNatClampNeg))
    refine ⟨M', hi', fun kb => ?_⟩
    show j_L_law_1000 kx kb L xs 0 91 (nI j) M = _
    unfold j_L_law_1000
    simp only [c1, c2, c3, c4, c5]
    exact e (fun M => j_L_law_1189 kx kb L xs 0 91 (nI j) M)
  · subst e
    obtain ⟨M', hi', e⟩ := lw_opl (op_size h (xs (nI j + (1 : Int32)).toNatClampNeg) (xs (nI j + (2 : Int32)).toNatClampNeg))
    refine ⟨M', hi', fun kb => ?_⟩
    show j_L_law_1033 kx kb L xs 0 91 (nI j) M = _
    unfold j_L_law_1033
    simp only [c1, c2, c3, c4, c5]
    exact e (fun M => j_L_law_1189 kx kb L xs 0 91 (nI j) M)
  · subst e
    obtain ⟨M', hi', e⟩ := lw_op (op_extra h (xs (nI j + (1 : Int32)).toNatClampNeg) (xs (nI j + (2 : Int32)).toNatClampNeg) (xs (nI j + (3 : Int32)).toNatClampNeg) (xs (nI j + (4 : Int32)).toNatClampNeg))
    refine ⟨M', hi', fun kb => ?_⟩
    show j_L_law_1067 kx kb L xs 0 91 (nI j) M = _
    unfold j_L_law_1067
    simp only [c1, c2, c3, c4, c5]
    exact e (fun M => j_L_law_1189 kx kb L xs 0 91 (nI j) M)
  · subst e
    obtain ⟨M', hi', e⟩ := lw_op (op_right h (xs (nI j + (1 : Int32)).toNatClampNeg))
    refine ⟨M', hi', fun kb => ?_⟩
    show j_L_law_1120 kx kb L xs 0 91 (nI j) M = _
    unfold j_L_law_1120
    simp only [c1, c2, c3, c4, c5]
    exact e (fun M => j_L_law_1189 kx kb L xs 0 91 (nI j) M)
  · subst e
    obtain ⟨M', hi', e⟩ := lw_op (op_same h (xs (nI j + (1 : Int32)).toNatClampNeg))
    refine ⟨M', hi', fun kb => ?_⟩
    show j_L_law_1143 kx kb L xs 0 91 (nI j) M = _
    unfold j_L_law_1143
    simp only [c1, c2, c3, c4, c5]
    exact e (fun M => j_L_law_1189 kx kb L xs 0 91 (nI j) M)
  · subst e
    obtain ⟨M', hi', e⟩ := lw_op (op_told h (xs (nI j + (1 : Int32)).toNatClampNeg))
    refine ⟨M', hi', fun kb => ?_⟩
    show j_L_law_1166 kx kb L xs 0 91 (nI j) M = _
    unfold j_L_law_1166
    simp only [c1, c2, c3, c4, c5]
    exact e (fun M => j_L_law_1189 kx kb L xs 0 91 (nI j) M)
theorem lw_step {L j : Nat} {xs : Nat → Int32} {M : Me} (hL : L ≤ 3072) (hj : j + 6 ≤ L) (h : INV M) (kx : Int32 → Me → Option (Int32 × Me)) : ∃ M', INV M' ∧ ∀ kb, g_L_law_18 kx kb L xs 0 91 (nI j) M = kb (nI (j + 6), M') := by
  have hlt : ¬ (nI L - 6 < nI j) := by
    rw [show (6 : Int32) = nI 6 from rfl, pk_sub (show 6 ≤ L by omega)]
    exact nI_nlt (by omega) (by omega)
  have pre : ∀ kb, g_L_law_18 kx kb L xs 0 91 (nI j) M = tsw ((xs j) &&& (31 : Int32)) 27 (fun i => lwJ L xs kx kb (nI j) M i) (j_L_law_1189 kx kb L xs 0 91 (nI j) M) := by
    intro kb
    unfold g_L_law_18
    rw [if_neg hlt, chk_n _ (show j < L by omega) (by omega), nI_clamp (by omega)]
    rfl
  by_cases g : (xs j &&& (31 : Int32)) < 0 ∨ 27 ≤ (xs j &&& (31 : Int32)).toNatClampNeg
  · refine ⟨M, h, fun kb => ?_⟩
    rw [pre]
    unfold tsw
    rw [if_pos g, lw_1189]
  · obtain ⟨M', hi', e⟩ := lw_case hL hj h (xs j &&& (31 : Int32)).toNatClampNeg (by omega) kx
    refine ⟨M', hi', fun kb => ?_⟩
    rw [pre]
    unfold tsw
    rw [if_neg g]
    exact (e kb).trans (lw_1189 L xs kx kb j M')
theorem pure_law (L : Nat) (xs : Nat → Int32) (hL : L ≤ 3072) : ∃ M', lawF L xs = some (1, M') := by
  obtain ⟨A, hA⟩ : ∃ A, A = M0 := ⟨_, rfl⟩
  have iA : INV A := by rw [hA]; exact inv_M0
  unfold lawF l_L_law_18
  rw [← hA]
  have := lp_inv (g := fun kb (z : Int32 × Me) => g_L_law_18 (fun _ M => chZ (1 : Int32) (some ((1 : Int32), M))) kb L xs 0 91 z.1 z.2) (fun i s => ∃ M', s = (nI (6 * i), M') ∧ INV M') (fun R => ∃ M', R = some (1, M')) (L / 6) (fun i s hi hI => ?_) (fun s hI => ?_) FU 0 (0, A) (by omega) (by unfold FU; omega) ⟨A, rfl, iA⟩
  · obtain ⟨R, ⟨M', e1⟩, e2⟩ := this
    exact ⟨M', e2.trans e1⟩
  · obtain ⟨M', e, h⟩ := hI
    subst e
    obtain ⟨M2, h2, e2⟩ := lw_step (xs := xs) hL (show 6 * i + 6 ≤ L by omega) h (fun _ M => chZ (1 : Int32) (some ((1 : Int32), M)))
    exact ⟨(nI (6 * (i + 1)), M2), ⟨M2, rfl, h2⟩, e2⟩
  · obtain ⟨M', e, h⟩ := hI
    subst e
    refine ⟨_, ⟨M', rfl⟩, fun kb => ?_⟩
    show g_L_law_18 _ kb L xs 0 91 (nI (6 * (L / 6))) M' = _
    unfold g_L_law_18
    have hlt : nI L - 6 < nI (6 * (L / 6)) := by
      rw [ltc, show (6 : Int32) = nI 6 from rfl, pk_sub_toInt (by omega) (by omega), nI_toInt (by omega)]
      omega
    rw [if_pos hlt]
    exact chZ_1 _
