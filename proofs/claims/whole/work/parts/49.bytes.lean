/-! bytes of a long, loops that count up -/
def byv (a : Int64) (t : Nat) : Nat := a.toBitVec.toNat / 2 ^ (8 * t) % 256
theorem byv_lt (a : Int64) (t : Nat) : byv a t < 256 := Nat.mod_lt _ (by decide)
theorem nI_and255 (m : Nat) : nI m &&& 255 = nI (m % 256) := by
  rw [pk_and (nI m) (m := 255) 8 (by decide)]
  show nI ((BitVec.ofNat 32 m).toNat % 2 ^ 8) = _
  rw [BitVec.toNat_ofNat]
  congr 1
  omega
theorem octX (a : Int64) {t : Nat} (ht : t < 8) : (lUshr a (nI (8 * t))).toInt32 &&& 255 = nI (byv a t) := by
  obtain ⟨N, hN, e⟩ := wb_of a
  subst e
  unfold lUshr byv
  rw [wb_shr hN (by omega), lN_i, nI_and255, wb_tn hN]
theorem octY (a : Int64) {t : Nat} (ht : t < 8) : ((lShr a (nI (8 * t))) &&& 255).toInt32 = nI (byv a t) := by
  have h1 : (lShr a (nI (8 * t))) &&& 255 = (lUshr a (nI (8 * t))) &&& 255 := by
    obtain ⟨N, hN, e⟩ := wb_of a
    subst e
    unfold lShr lUshr
    rw [wb_shr hN (by omega), wb_c _ (by omega)]
    apply wb_inj
    rw [Int64.toBitVec_and, Int64.toBitVec_and, Int64.toBitVec_shiftRight, wb_tb, wb_tb, wb_tb, wb_sm _ (by omega)]
    apply BitVec.eq_of_getLsbD_eq
    intro i hi
    rw [BitVec.getLsbD_and, BitVec.getLsbD_and]
    by_cases h8 : i < 8
    · congr 1
      rw [BitVec.sshiftRight_eq', BitVec.getLsbD_sshiftRight, BitVec.toNat_ofNat, Nat.mod_eq_of_lt (show 8 * t < 2 ^ 64 by omega), if_pos (by omega), BitVec.getLsbD_ofNat, BitVec.getLsbD_ofNat, Nat.testBit_div_two_pow]
      simp [hi, show 8 * t + i < 64 by omega, show ¬ 64 ≤ i by omega, Nat.add_comm]
      intro _
      omega
    · have : (255 : Int64).toBitVec.getLsbD i = false := by
        show (BitVec.ofNat 64 255).getLsbD i = false
        rw [BitVec.getLsbD_ofNat]
        have : Nat.testBit 255 i = false := Nat.testBit_lt_two_pow (Nat.lt_of_lt_of_le (by decide : 255 < 2 ^ 8) (Nat.pow_le_pow_right (by decide) (by omega)))
        simp [this]
      rw [this, Bool.and_false, Bool.and_false]
  rw [h1]
  have h2 : ((lUshr a (nI (8 * t))) &&& 255).toInt32 = (lUshr a (nI (8 * t))).toInt32 &&& 255 := by
    rw [Int64.toInt32_and]
    rfl
  rw [h2, octX a ht]
theorem f_oct {M : Me} (a : Int64) {n j : Nat} (hn : n ≤ 8) (hj : j < n) : f_X4_octetOf M a (nI n) (nI j) = some (nI (byv a (n - 1 - j)), M) := by
  unfold f_X4_octetOf
  rw [su_1 (by omega), pk_sub (by omega), mu_8, octX a (by omega)]
theorem f_byt {M : Me} (a : Int64) {n j : Nat} (hn : n ≤ 8) (hj : j < n) : f_X5_byteOf M a (nI n) (nI j) = some (nI (byv a (n - 1 - j)), M) := by
  unfold f_X5_byteOf
  rw [su_1 (by omega), pk_sub (by omega), mu_8, octY a (by omega)]
theorem lp_for {γ : Type} (g : (Int32 × Me → Option γ) → Int32 × Me → Option γ) (S : Nat → Me) (n : Nat) (K : Option γ) (hstep : ∀ kb j, j < n → g kb (nI j, S j) = kb (nI (j + 1), S (j + 1))) (hend : ∀ kb, g kb (nI n, S n) = K) : ∀ fuel j, j ≤ n → n - j < fuel → lp g fuel (nI j, S j) = K := by
  intro fuel
  induction fuel with
  | zero => intro j _ h; omega
  | succ f ih =>
    intro j hj hf
    show g (lp g f) (nI j, S j) = K
    rcases Nat.lt_or_ge j n with h | h
    · rw [hstep _ j h]
      exact ih (j + 1) (by omega) (by omega)
    · rw [show j = n by omega]
      exact hend _
def bI (v : Nat) : Int32 := (nI v).toInt8.toInt32
theorem bI_255 : ∀ v, v < 256 → bI v &&& 255 = nI v := by decide +kernel
theorem bI_byte (v : Nat) : (bI v).toInt8.toInt32 = bI v := pk_vb (nI v)
/-- j bytes of the n lowest of a written from place p of row r on: ZipForms' bytes, the reference's ints -/
def wrX (M : Me) (r p : Nat) (a : Int64) (n : Nat) : Nat → Me
  | 0 => M
  | j + 1 => sI (wrX M r p a n j) r (p + j) (bI (byv a (n - 1 - j)))
def wrY (M : Me) (r p : Nat) (a : Int64) (n : Nat) : Nat → Me
  | 0 => M
  | j + 1 => sI (wrY M r p a n j) r (p + j) (nI (byv a (n - 1 - j)))
def wl (r p : Nat) (a : Int64) (n : Nat) : Nat → List (Nat × Nat × Int32)
  | 0 => []
  | j + 1 => (r, p + j, nI (byv a (n - 1 - j))) :: wl r p a n j
theorem wrX_ne {M : Me} {r p : Nat} {a : Int64} {n : Nat} {b k : Nat} : ∀ j, (b ≠ r ∨ k < p ∨ p + j ≤ k) → (wrX M r p a n j).1 b k = M.1 b k
  | 0, _ => rfl
  | j + 1, h => by
    show (sI _ _ _ _).1 b k = _
    rw [sI_ne (by omega)]
    exact wrX_ne j (by omega)
theorem wrY_ne {M : Me} {r p : Nat} {a : Int64} {n : Nat} {b k : Nat} : ∀ j, (b ≠ r ∨ k < p ∨ p + j ≤ k) → (wrY M r p a n j).1 b k = M.1 b k
  | 0, _ => rfl
  | j + 1, h => by
    show (sI _ _ _ _).1 b k = _
    rw [sI_ne (by omega)]
    exact wrY_ne j (by omega)
theorem wrX_w {M : Me} {x y r q : Nat} {a : Int64} {n : Nat} (hr : byr r) : ∀ j, (∀ i, i < j → vd r (q + i) ∧ loc r (q + i) = (x, y + i)) → WX (wl r q a n j) M (wrX M x y a n j)
  | 0, _ => WX.nil
  | j + 1, h => by
    have ih := wrX_w (M := M) (a := a) (n := n) hr j (fun i hi => h i (by omega))
    obtain ⟨h1, h2⟩ := h j (by omega)
    have := ih.cons (a0 := r) (k0 := q + j) h1 (v := bI (byv a (n - 1 - j))) (w := nI (byv a (n - 1 - j))) ((if_pos hr).trans (bI_255 _ (byv_lt _ _)))
    rw [h2] at this
    exact this
theorem wrY_w {M : Me} {r q : Nat} {a : Int64} {n : Nat} (hr : 91 ≤ r) : ∀ j, WY (wl r q a n j) M (wrY M r q a n j)
  | 0 => WY.nil
  | j + 1 => (wrY_w hr j).cons hr
theorem wl_mem {r p : Nat} {a : Int64} {n : Nat} {w : Nat × Nat × Int32} : ∀ j, w ∈ wl r p a n j → w.1 = r ∧ p ≤ w.2.1 ∧ w.2.1 < p + j ∧ isB w.2.2
  | 0, h => by cases h
  | j + 1, h => by
    rcases List.mem_cons.mp h with e | h
    · subst e
      exact ⟨rfl, by show p ≤ p + j; omega, by show p + j < p + (j + 1); omega, ⟨_, byv_lt _ _, rfl⟩⟩
    · obtain ⟨h1, h2, h3, h4⟩ := wl_mem j h
      exact ⟨h1, h2, by omega, h4⟩
theorem wrX_xb {M : Me} {x y : Nat} {a : Int64} {n : Nat} (h : XB M) : ∀ j, XB (wrX M x y a n j)
  | 0 => h
  | j + 1 => by
    intro i k hi hk
    show (sI _ _ _ _).1 _ k = ((sI _ _ _ _).1 _ k).toInt8.toInt32
    rw [sI_1, up2_at]
    by_cases q : 20 + 6 * i = x ∧ k = y + j
    · rw [if_pos q]
      exact (bI_byte _).symm
    · rw [if_neg q]
      exact wrX_xb h j i k hi hk
theorem wrY_xb {M : Me} {r q : Nat} {a : Int64} {n : Nat} (h : XB M) (hr : 91 ≤ r) : ∀ j, XB (wrY M r q a n j)
  | 0 => h
  | j + 1 => (wrY_xb h hr j).up (by omega)
/-- ZipForms.spread -/
theorem f_spr {M : Me} (a : Int64) {n p r : Nat} (hn : n ≤ 8) (hp : p + n ≤ ln r) (hr : ln r < 2 ^ 30) : f_X4_spread M a (nI n) r (nI p) = some ((), wrX M r p a n n) := by
  unfold f_X4_spread l_X4_spread_3
  refine lp_for _ (fun j => wrX M r p a n j) n _ (fun kb j hj => ?_) (fun kb => ?_) FU 0 (by omega) (by unfold FU; omega)
  · show g_X4_spread_3 _ kb a (nI n) r (nI p) (nI j) (wrX M r p a n j) = _
    unfold g_X4_spread_3
    rw [if_neg (nI_ge hj (by omega)), nI_add, if_neg (nI_ge (by omega) (by omega)), f_oct a hn hj, cal_s, chk_n _ (by omega) (by omega), bnd_s, bndV_s, nI_1, nI_clamp (by omega)]
    rw [pk_vb]
    rfl
  · show g_X4_spread_3 _ kb a (nI n) r (nI p) (nI n) (wrX M r p a n n) = _
    unfold g_X4_spread_3
    rw [if_pos (nI_le (Nat.le_refl n) (by omega))]
