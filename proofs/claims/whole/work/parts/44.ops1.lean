/-! what the invariant says of ZipForms' own fields -/
theorem IV.hd {M : Me} {n z c k : Nat} (h : IV M n z c) (hk : k = 1 ∨ k = 2 ∨ k = 22 ∨ k = 24 ∨ k = 26) : AX M 91 k = M.1 91 k := h.2.2.2.1 91 k (Or.inl ⟨rfl, hk⟩) ⟨fun q => by omega, fun q => by omega⟩
theorem IV.xn {M : Me} {n z c : Nat} (h : IV M n z c) : M.1 0 4 = nI n := (h.hd (k := 2) (by omega)).trans h.1.2.2.2.1
theorem IV.xz {M : Me} {n z c : Nat} (h : IV M n z c) : M.1 2 1 = nI z := (h.hd (k := 24) (by omega)).trans h.1.2.2.2.2.1
theorem IV.xc {M : Me} {n z c : Nat} (h : IV M n z c) : M.1 0 5 = nI c := (h.hd (k := 22) (by omega)).trans h.1.2.2.2.2.2
theorem IV.xf {M : Me} {n z c : Nat} (h : IV M n z c) : M.1 0 6 = M.1 91 1 := h.hd (k := 1) (by omega)
theorem IV.xp {M : Me} {n z c : Nat} (h : IV M n z c) : M.1 0 7 = M.1 91 26 := h.hd (k := 26) (by omega)
theorem vd_s {a i : Nat} (ha : a = 92 ∨ a = 93 ∨ a = 95 ∨ a = 96 ∨ a = 97 ∨ a = 98 ∨ a = 99 ∨ a = 103 ∨ a = 104 ∨ a = 106 ∨ a = 107 ∨ a = 108 ∨ a = 109) (hi : i < 12) : vd a i := by
  refine Or.inr ⟨by omega, by omega, ?_⟩
  unfold lnv
  rw [if_neg (by omega), if_neg (by omega), if_neg (by omega), if_neg (by omega), if_neg (by omega), if_neg (by omega)]
  exact hi
theorem IV.sc {M : Me} {n z c i a : Nat} (h : IV M n z c) (hi : i < n) (ha : a = 92 ∨ a = 93 ∨ a = 95 ∨ a = 96 ∨ a = 97 ∨ a = 98 ∨ a = 99 ∨ a = 103 ∨ a = 104 ∨ a = 107 ∨ a = 108 ∨ a = 109) : AX M a i = M.1 a i := h.2.2.2.1 a i (vd_s (by omega) (by have := h.1.1; omega)) ⟨fun _ => hi, fun q => by omega⟩
theorem IV.xk {M : Me} {n z c i : Nat} (h : IV M n z c) (hi : i < n) : M.1 (19 + 6 * i) 5 = M.1 92 i := h.sc (a := 92) hi (by omega)
theorem IV.x6 {M : Me} {n z c i : Nat} (h : IV M n z c) (hi : i < n) : M.1 (19 + 6 * i) 6 = M.1 93 i := h.sc (a := 93) hi (by omega)
theorem IV.x7 {M : Me} {n z c i : Nat} (h : IV M n z c) (hi : i < n) : M.1 (19 + 6 * i) 7 = M.1 95 i := h.sc (a := 95) hi (by omega)
theorem IV.x8 {M : Me} {n z c i : Nat} (h : IV M n z c) (hi : i < n) : M.1 (19 + 6 * i) 8 = M.1 104 i := h.sc (a := 104) hi (by omega)
theorem IV.x9 {M : Me} {n z c i : Nat} (h : IV M n z c) (hi : i < n) : M.1 (19 + 6 * i) 9 = M.1 99 i := h.sc (a := 99) hi (by omega)
theorem IV.x10 {M : Me} {n z c i : Nat} (h : IV M n z c) (hi : i < n) : M.1 (19 + 6 * i) 10 = M.1 103 i := h.sc (a := 103) hi (by omega)
theorem IV.x11 {M : Me} {n z c i : Nat} (h : IV M n z c) (hi : i < n) : M.1 (19 + 6 * i) 11 = M.1 108 i := h.sc (a := 108) hi (by omega)
theorem IV.x13 {M : Me} {n z c i : Nat} (h : IV M n z c) (hi : i < n) : M.1 (19 + 6 * i) 13 = M.1 107 i := h.sc (a := 107) hi (by omega)
theorem IV.x14 {M : Me} {n z c i : Nat} (h : IV M n z c) (hi : i < n) : M.1 (19 + 6 * i) 14 = M.1 96 i := h.sc (a := 96) hi (by omega)
theorem IV.x15 {M : Me} {n z c i : Nat} (h : IV M n z c) (hi : i < n) : M.1 (19 + 6 * i) 15 = M.1 97 i := h.sc (a := 97) hi (by omega)
theorem IV.x16 {M : Me} {n z c i : Nat} (h : IV M n z c) (hi : i < n) : M.1 (19 + 6 * i) 16 = M.1 98 i := h.sc (a := 98) hi (by omega)
theorem IV.x17 {M : Me} {n z c i : Nat} (h : IV M n z c) (hi : i < n) : M.1 (19 + 6 * i) 17 = M.1 109 i := h.sc (a := 109) hi (by omega)
theorem IV.x12 {M : Me} {n z c i : Nat} (h : IV M n z c) (hi : i < n) (hk : M.1 92 i = 1) : M.1 (19 + 6 * i) 12 = M.1 106 i := h.2.2.2.1 106 i (vd_s (by omega) (by have := h.1.1; omega)) ⟨fun _ => hi, fun _ => hk⟩
/-! one write on both sides, and the reference's 'thrown' -/
/-- a memory that is M but for the reference's scratch and one place on both sides -/
def W1 (M M2 : Me) (a0 k0 : Nat) (w : Int32) : Prop := (∀ a k, vd a k → AX M2 a k = if a = a0 ∧ k = k0 then w else AX M a k) ∧ (∀ a k, 91 ≤ a → a ≤ 111 → ¬ (a = 91 ∧ ¬ (k = 1 ∨ k = 2 ∨ k = 22 ∨ k = 24 ∨ k = 26)) → M2.1 a k = if a = a0 ∧ k = k0 then w else M.1 a k)
theorem W1.mk {M : Me} {a0 k0 : Nat} {v t w : Int32} (h0 : vd a0 k0) (hw : msk a0 v = w) : W1 M (sI (sI (sI M (loc a0 k0).1 (loc a0 k0).2 v) 91 0 t) a0 k0 w) a0 k0 w := by
  refine ⟨fun a k hv => ?_, fun a k h1 h2 h3 => ?_⟩
  · rw [AX_hi (vd_ge h0) hv, AX_hi (by omega) hv, AX_set h0 hv]
    by_cases q : a = a0 ∧ k = k0
    · rw [if_pos q, if_pos q, q.1, hw]
    · rw [if_neg q, if_neg q]
  · have hl := loc_lt h0
    rw [sI_1, up2_at, sI_1, up2_at, sI_1, up2_at]
    by_cases q : a = a0 ∧ k = k0
    · rw [if_pos q, if_pos q]
    · rw [if_neg q, if_neg q, if_neg (by omega), if_neg (by omega)]
theorem W1.re {M M2 : Me} {a0 k0 n : Nat} {w : Int32} (h : W1 M M2 a0 k0 w) (hr : RE (AX M) M.1 n) (h92 : a0 = 92 → n ≤ k0) : RE (AX M2) M2.1 n := hr.up h.1 (fun a k hv => h.2 a k (vd_ge hv) (by rcases hv with ⟨g, _⟩ | ⟨_, g, _⟩ <;> omega) (by rcases hv with ⟨g, g2⟩ | ⟨g, _⟩ <;> omega)) h92
theorem W1.iv {M M2 : Me} {a0 k0 n z c : Nat} {w : Int32} (h : W1 M M2 a0 k0 w) (hi : IV M n z c) (ha : a0 = 96 ∨ a0 = 97 ∨ a0 = 98 ∨ a0 = 100 ∨ a0 = 106 ∨ a0 = 107 ∨ (a0 = 91 ∧ (k0 = 1 ∨ k0 = 26))) (hx : XB M2) : IV M2 n z c := by
  obtain ⟨h1, h2, h3, h4, h5⟩ := hi
  have e : ∀ a k, (a = 91 ∧ (k = 2 ∨ k = 22 ∨ k = 24)) ∨ (a = 92 ∨ a = 93 ∨ a = 94 ∨ a = 95 ∨ a = 99 ∨ a = 101 ∨ a = 102 ∨ a = 103 ∨ a = 104 ∨ a = 105 ∨ a = 108 ∨ a = 109 ∨ a = 110 ∨ a = 111) → M2.1 a k = M.1 a k := by
    intro a k hk
    rw [h.2 a k (by omega) (by omega) (by omega), if_neg (by omega)]
  exact ⟨h1.congr (fun k hk => e 91 k (by omega)), h2.congr (fun a k ha => e a k (by omega)), fun i hi => (h3 i hi).congr (fun a ha => e a i (by omega)) (fun p hp => e 101 _ (by omega)), h.re h4 (by omega), hx⟩
theorem XB.up {M : Me} {x y : Nat} {v : Int32} (h : XB M) (hx : ∀ i, i < 12 → x ≠ 20 + 6 * i) : XB (sI M x y v) := by
  intro i k hi hk
  have e2 : (sI M x y v).1 (20 + 6 * i) k = M.1 (20 + 6 * i) k := by
    rw [sI_1, up2_at, if_neg (by have := hx i hi; omega)]
  rw [e2]
  exact h i k hi hk
theorem msk_id {a : Nat} {v : Int32} (h : ¬ (a = 94 ∨ a = 102 ∨ a = 105 ∨ a = 110 ∨ a = 111)) : msk a v = v := if_neg h
/-! THE OPERATIONS -/
theorem op_place {M : Me} (h : INV M) : OP (fun M => f_X4_place M 0) (fun M => f_X5_place M 91) M := by
  obtain ⟨n, z, c, hi⟩ := h
  refine ⟨M.1 0 7, M, sI M 91 0 0, rfl, ?_, ⟨n, z, c, hi.scr (by omega)⟩⟩
  show f_X5_place M 91 = _
  unfold f_X5_place
  rw [bnd_s, sI_1, up2_at, if_neg (by omega), hi.xp]
theorem op_attributes {M : Me} (h : INV M) (x v : Int32) : OP (fun M => f_X4_attributes M 0 x v) (fun M => f_X5_attributes M 91 x v) M := by
  obtain ⟨n, z, c, hi⟩ := h
  have hn := hi.1.1
  rcases x_unk hn hi.xn x with ⟨i, hin, e, hx⟩ | ⟨hno, hx⟩
  · subst e
    have hxb : XB (sI (sI (sI M (19 + 6 * i) 16 v) 91 0 0) 98 i v) := ((hi.2.2.2.2.up (by omega)).up (by omega)).up (by omega)
    refine ⟨1, sI M (19 + 6 * i) 16 v, sI (sI (sI M (19 + 6 * i) 16 v) 91 0 0) 98 i v, ?_, ?_, ⟨n, z, c, (W1.mk (M := M) (a0 := 98) (k0 := i) (v := v) (t := 0) (vd_s (by omega) (by omega)) (msk_id (by omega))).iv hi (by omega) hxb⟩⟩
    · show f_X4_attributes M 0 (nI i) v = _
      unfold f_X4_attributes
      rw [hx, cal_s, if_pos rfl, chk_n _ (show i < ln (rf 0 0) by show i < 12; omega) (by decide), bnd_s, nI_clamp (by omega)]
      rfl
    · show f_X5_attributes (sI M (19 + 6 * i) 16 v) 91 (nI i) v = _
      unfold f_X5_attributes
      rw [bnd_s]
      rcases y_unk (M := sI (sI M (19 + 6 * i) 16 v) 91 0 0) hn (by rw [sI_1, up2_at, if_neg (by omega), sI_1, up2_at, if_neg (by omega)]; exact hi.1.2.2.2.1) (nI i) with ⟨j, hj, e, hy⟩ | ⟨hno, _⟩
      · rw [hy, cal_s, if_neg (by decide), chk_n _ (show i < ln (rf 91 9) by show i < 12; omega) (by decide), bnd_s, nI_clamp (by omega)]
        rfl
      · exact absurd ⟨i, hin, rfl⟩ hno
  · refine ⟨-2, M, sI M 91 0 0, ?_, ?_, ⟨n, z, c, hi.scr (by omega)⟩⟩
    · show f_X4_attributes M 0 x v = _
      unfold f_X4_attributes
      rw [hx, cal_s, if_neg (by decide)]
    · show f_X5_attributes M 91 x v = _
      unfold f_X5_attributes
      rw [bnd_s]
      rcases y_unk (M := sI M 91 0 0) hn (by rw [sI_1, up2_at, if_neg (by omega)]; exact hi.1.2.2.2.1) x with ⟨j, hj, e, hy⟩ | ⟨_, hy⟩
      · exact absurd ⟨j, hj, e⟩ hno
      · rw [hy, cal_s, if_pos rfl]
