/-! THE BYTES as numbers, low byte first -/
theorem lp_run {σ γ : Type} (g : (σ → Option γ) → σ → Option γ) (S : Nat → σ) (n : Nat) (K : Option γ) (hstep : ∀ kb j, j < n → g kb (S j) = kb (S (j + 1))) (hend : ∀ kb, g kb (S n) = K) : ∀ fuel j, j ≤ n → n - j < fuel → lp g fuel (S j) = K := by
  intro fuel
  induction fuel with
  | zero => intro j _ h; omega
  | succ f ih =>
    intro j hj hf
    show g (lp g f) (S j) = K
    rcases Nat.lt_or_ge j n with h | h
    · rw [hstep _ j h]
      exact ih (j + 1) (by omega) (by omega)
    · rw [show j = n by omega]
      exact hend _
def Bb (b : Nat → Nat) : Prop := (∀ k, b k < 256) ∧ ∀ k, 2000 ≤ k → b k = 0
def BX (M : Me) (b : Nat → Nat) : Prop := ∀ k, k < 2000 → M.1 3 k &&& 255 = nI (b k)
def BYr (M : Me) (b : Nat → Nat) : Prop := ∀ k, k < 2100 → M.1 111 k = nI (b k)
theorem IV.bytes {M : Me} {n z c : Nat} (h : IV M n z c) : ∃ b, Bb b ∧ BX M b ∧ BYr M b := by
  obtain ⟨_, _, _, _, g5, g6⟩ := h.2.1
  have key : ∀ k, k < 2000 → M.1 111 k = nI ((M.1 111 k).toBitVec.toNat) ∧ (M.1 111 k).toBitVec.toNat < 256 := by
    intro k hk
    obtain ⟨v, hv, e⟩ := g5 k hk
    rw [e, pk_tn (by omega)]
    exact ⟨rfl, hv⟩
  refine ⟨fun k => if k < 2000 then (M.1 111 k).toBitVec.toNat else 0, ⟨fun k => ?_, fun k hk => ?_⟩, fun k hk => ?_, fun k hk => ?_⟩
  · show (if k < 2000 then _ else 0) < 256
    by_cases q : k < 2000
    · rw [if_pos q]; exact (key k q).2
    · rw [if_neg q]; decide
  · show (if k < 2000 then _ else 0) = 0
    rw [if_neg (by omega)]
  · show _ = nI (if k < 2000 then _ else 0)
    rw [if_pos hk, h.xby hk]
    exact (key k hk).1
  · show _ = nI (if k < 2000 then _ else 0)
    by_cases q : k < 2000
    · rw [if_pos q]; exact (key k q).1
    · rw [if_neg q]; exact g6 k (by omega) hk
theorem BX.up {M : Me} {b : Nat → Nat} {x y : Nat} {v : Int32} (h : BX M b) (hx : x ≠ 3) : BX (sI M x y v) b := fun k hk => by rw [sI_ne (by omega)]; exact h k hk
theorem BYr.up {M : Me} {b : Nat → Nat} {x y : Nat} {v : Int32} (h : BYr M b) (hx : x ≠ 111) : BYr (sI M x y v) b := fun k hk => by rw [sI_ne (by omega)]; exact h k hk
def nm (b : Nat → Nat) (i : Nat) : Nat → Nat
  | 0 => 0
  | k + 1 => nm b i k + b (i + k) * 2 ^ (8 * k)
theorem nm_lt {b : Nat → Nat} {i : Nat} (h : ∀ k, b k < 256) : ∀ n, nm b i n < 2 ^ (8 * n)
  | 0 => Nat.zero_lt_one
  | n + 1 => by
    have h1 := nm_lt (i := i) h n
    have h2 := h (i + n)
    have h3 : b (i + n) * 2 ^ (8 * n) ≤ 255 * 2 ^ (8 * n) := Nat.mul_le_mul_right _ (by omega)
    show nm b i n + b (i + n) * 2 ^ (8 * n) < 2 ^ (8 * n + 8)
    rw [Nat.pow_add]
    omega
theorem nm_2 (b : Nat → Nat) (i : Nat) : nm b i 2 = b i + b (i + 1) * 256 := by
  show 0 + b i * 1 + b (i + 1) * 256 = _
  omega
theorem nm_1 (b : Nat → Nat) (i : Nat) : nm b i 1 = b i := by
  show 0 + b i * 1 = _
  omega
theorem nm_4 (b : Nat → Nat) (i : Nat) : nm b i 4 = nm b i 2 + nm b (i + 2) 2 * 65536 := by
  show nm b i 2 + b (i + 2) * 65536 + b (i + 3) * 16777216 = _
  rw [nm_2 b (i + 2), show i + 2 + 1 = i + 3 from rfl]
  omega
theorem nm_8 (b : Nat → Nat) (i : Nat) : nm b i 8 = nm b i 4 + nm b (i + 4) 4 * 4294967296 := by
  show nm b i 4 + b (i + 4) * 4294967296 + b (i + 5) * 1099511627776 + b (i + 6) * 281474976710656 + b (i + 7) * 72057594037927936 = _
  rw [nm_4 b (i + 4), nm_2 b (i + 4), nm_2 b (i + 4 + 2), show i + 4 + 1 = i + 5 from rfl, show i + 4 + 2 + 1 = i + 7 from rfl, show i + 4 + 2 = i + 6 from rfl]
  omega
theorem or_l {a c k : Nat} (ha : a < 2 ^ k) (hk : k ≤ 64) (hc : c * 2 ^ k < 2 ^ 64) : lN a ||| lN (c * 2 ^ k) = lN (a + c * 2 ^ k) := by
  have h1 : a < 2 ^ 64 := Nat.lt_of_lt_of_le ha (Nat.pow_le_pow_right (by decide) hk)
  rw [wb_or h1 hc, Nat.or_comm, Nat.mul_comm c, ← Nat.two_pow_add_eq_or_of_lt ha, Nat.add_comm]
theorem or_8 {a c : Nat} (ha : a < 256) (hc : c < 256) : nI a ||| (nI c <<< ((8 : Int32) &&& 31)) = nI (a + c * 256) := by
  apply Int32.toBitVec_inj.mp
  apply BitVec.eq_of_toNat_eq
  rw [Int32.toBitVec_or, BitVec.toNat_or, pk_shl _ _ 8 (by decide), pk_tn (by omega), pk_tn (by omega), pk_tn (by omega), Nat.mod_eq_of_lt (by omega), Nat.or_comm, Nat.mul_comm c, ← Nat.two_pow_add_eq_or_of_lt (i := 8) (by omega)]
  omega
theorem f_n1 {M : Me} {b : Nat → Nat} (hb : Bb b) (hx : BX M b) {i : Nat} (hi : i < 2 ^ 31) : f_X3_number1 M 2 (nI i) = some (nI (b i), M) := by
  unfold f_X3_number1
  rw [if_neg (nI_pos hi)]
  by_cases q : i < 2000
  · rw [if_pos (show nI i < (2000 : Int32) from nI_lt (b := 2000) q (by decide)), rf_2_0, chk_n _ (show i < ln 3 by rw [ln_3]; exact q) (by decide), nI_clamp hi, hx i q]
  · rw [if_neg (show ¬ nI i < (2000 : Int32) from nI_nlt (b := 2000) (by omega) hi), hb.2 i (by omega)]
    rfl
theorem f_n2 {M : Me} {b : Nat → Nat} (hb : Bb b) (hx : BX M b) {i : Nat} (hi : i + 1 < 2 ^ 31) : f_X3_number2 M 2 (nI i) = some (nI (nm b i 2), M) := by
  unfold f_X3_number2
  rw [f_n1 hb hx (by omega), cal_s, nI_1, f_n1 hb hx hi, cal_s, or_8 (hb.1 _) (hb.1 _), nm_2]
theorem f_ln {M : Me} {b : Nat → Nat} (hb : Bb b) (hx : BX M b) {i n : Nat} (hn : n ≤ 8) (hi : i + n < 2 ^ 31) : f_X3_longNumber M 2 (nI i) (nI n) = some (lN (nm b i n), M) := by
  unfold f_X3_longNumber l_X3_longNumber_5
  refine lp_run _ (fun j => (lN (nm b i j), nI j, M)) n _ (fun kb j hj => ?_) (fun kb => ?_) FU 0 (by omega) (by unfold FU; omega)
  · show g_X3_longNumber_5 _ kb 2 (nI i) (nI n) (lN (nm b i j)) (nI j) M = _
    unfold g_X3_longNumber_5
    have h1 := nm_lt (i := i) hb.1 j
    have h2 := hb.1 (i + j)
    have h3 : b (i + j) * 2 ^ (8 * j) < 2 ^ 64 := by
      have h4 : b (i + j) * 2 ^ (8 * j) < 256 * 2 ^ (8 * j) := Nat.mul_lt_mul_of_pos_right h2 (Nat.two_pow_pos _)
      have h5 : 256 * 2 ^ (8 * j) = 2 ^ (8 * j + 8) := by rw [Nat.pow_add, Nat.mul_comm]
      have h6 : 2 ^ (8 * j + 8) ≤ 2 ^ 64 := Nat.pow_le_pow_right (by decide) (by omega)
      omega
    rw [if_neg (nI_ge hj (by omega)), nI_add, f_n1 hb hx (by omega), cal_s, mu_8, nI_l (by omega)]
    unfold lShl
    rw [wb_shl _ (show 8 * j < 64 by omega), or_l h1 (by omega) h3, bndV_s, bndV_s, nI_1]
    rfl
  · show g_X3_longNumber_5 _ kb 2 (nI i) (nI n) (lN (nm b i n)) (nI n) M = _
    unfold g_X3_longNumber_5
    rw [if_pos (nI_le (Nat.le_refl n) (by omega))]
theorem f_n4 {M : Me} {b : Nat → Nat} (hb : Bb b) (hx : BX M b) {i : Nat} (hi : i + 4 < 2 ^ 31) : f_X3_number4 M 2 (nI i) = some (lN (nm b i 4), M) := by
  unfold f_X3_number4
  rw [show (4 : Int32) = nI 4 from rfl, f_ln hb hx (by omega) hi, cal_s]
theorem f_n8 {M : Me} {b : Nat → Nat} (hb : Bb b) (hx : BX M b) {i : Nat} (hi : i + 8 < 2 ^ 31) : f_X3_number8 M 2 (nI i) = some (lN (nm b i 8), M) := by
  unfold f_X3_number8
  rw [show (8 : Int32) = nI 8 from rfl, f_ln hb hx (by omega) hi, cal_s]
theorem f_two {M : Me} {b : Nat → Nat} (hb : Bb b) (hy : BYr M b) {i : Nat} (hi : i + 1 < 2100) : f_X5_two M 91 (nI i) = some (nI (nm b i 2), M) := by
  unfold f_X5_two
  rw [rf_91_23, nI_1, chk_n _ (show i < ln 111 by rw [ln_111]; omega) (by decide), chk_n _ (show i + 1 < ln 111 by rw [ln_111]; omega) (by decide), nI_clamp (by omega), nI_clamp (by omega), hy i (by omega), hy (i + 1) hi, or_8 (hb.1 _) (hb.1 _), nm_2]
theorem f_four {M : Me} {b : Nat → Nat} (hb : Bb b) (hy : BYr M b) {i : Nat} (hi : i + 3 < 2100) : f_X5_four M 91 (nI i) = some (lN (nm b i 4), M) := by
  unfold f_X5_four
  have h1 := nm_lt (i := i) hb.1 2
  have h2 := nm_lt (i := i + 2) hb.1 2
  rw [f_two hb hy (by omega), cal_s, show (2 : Int32) = nI 2 from rfl, nI_add, f_two hb hy (by omega), cal_s, nI_l (by omega), nI_l (by omega)]
  unfold lShl
  rw [show (16 : Int32) = nI 16 from rfl, wb_shl _ (by decide), or_l h1 (by decide) (by omega), nm_4]
theorem f_eight {M : Me} {b : Nat → Nat} (hb : Bb b) (hy : BYr M b) {i : Nat} (hi : i + 7 < 2100) : f_X5_eight M 91 (nI i) = some (lN (nm b i 8), M) := by
  unfold f_X5_eight
  have h1 := nm_lt (i := i) hb.1 4
  have h2 := nm_lt (i := i + 4) hb.1 4
  rw [f_four hb hy (by omega), cal_s, show (4 : Int32) = nI 4 from rfl, nI_add, f_four hb hy (by omega), cal_s]
  unfold lShl
  rw [show (32 : Int32) = nI 32 from rfl, wb_shl _ (by decide), or_l h1 (by decide) (by omega), nm_8]
