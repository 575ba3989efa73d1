/-! TOOLS FOR read -/
theorem sL_1 {M : Me} {a k : Nat} {v : Int64} : (sL M a k v).1 = M.1 := rfl
theorem sL_ne {M : Me} {a k b j : Nat} {v : Int64} (h : ¬ (b = a ∧ j = k)) : (sL M a k v).2 b j = M.2 b j := by
  show up2 M.2 a k v b j = _
  rw [up2_at, if_neg h]
theorem sL_eq {M : Me} {a k : Nat} {v : Int64} : (sL M a k v).2 a k = v := by
  show up2 M.2 a k v a k = _
  rw [up2_at, if_pos ⟨rfl, rfl⟩]
theorem lgl (x y : Int64) : (lg_cmp x y < 0) = (x.toInt < y.toInt) := propext ((lg_cmp_lt x y).trans Int64.lt_iff_toInt_lt)
theorem lgg (x y : Int64) : (0 < lg_cmp x y) = (y.toInt < x.toInt) := propext ((lg_cmp_gt x y).trans Int64.lt_iff_toInt_lt)
theorem lge (x y : Int64) : (lg_cmp x y = 0) = (x.toInt = y.toInt) := propext ((lg_cmp_eq x y).trans Int64.toInt_inj.symm)
theorem lgle (x y : Int64) : (lg_cmp x y ≤ 0) = (x.toInt ≤ y.toInt) := propext ((lg_cmp_le x y).trans Int64.le_iff_toInt_le)
theorem lgge (x y : Int64) : (0 ≤ lg_cmp x y) = (y.toInt ≤ x.toInt) := propext ((lg_cmp_ge x y).trans Int64.le_iff_toInt_le)
theorem lN_tI {n : Nat} (h : n < 2 ^ 63) : (lN n).toInt = (n : Int) := lg_ofNat_toInt h
/-- a loop with what holds at its head -/
theorem lp_inv {σ γ : Type} (g : (σ → Option γ) → σ → Option γ) (I : Nat → σ → Prop) (Q : Option γ → Prop) (n : Nat) (hstep : ∀ j s, j < n → I j s → ∃ s', I (j + 1) s' ∧ ∀ kb, g kb s = kb s') (hend : ∀ s, I n s → ∃ r, Q r ∧ ∀ kb, g kb s = r) : ∀ fuel j s, j ≤ n → n - j < fuel → I j s → ∃ r, Q r ∧ lp g fuel s = r := by
  intro fuel
  induction fuel with
  | zero => intro j s _ h; omega
  | succ f ih =>
    intro j s hj hf hI
    rcases Nat.lt_or_ge j n with h | h
    · obtain ⟨s', h1, h2⟩ := hstep j s h hI
      obtain ⟨r, h3, h4⟩ := ih (j + 1) s' (by omega) (by omega) h1
      exact ⟨r, h3, (h2 (lp g f)).trans h4⟩
    · have e : j = n := by omega
      subst e
      obtain ⟨r, h3, h4⟩ := hend s hI
      exact ⟨r, h3, h4 (lp g f)⟩
theorem BX.same {M M' : Me} {b : Nat → Nat} (h : BX M b) (hs : ∀ y, M'.1 3 y = M.1 3 y) : BX M' b := fun k hk => by rw [hs k]; exact h k hk
theorem BYr.same {M M' : Me} {b : Nat → Nat} (h : BYr M b) (hs : ∀ y, M'.1 111 y = M.1 111 y) : BYr M' b := fun k hk => by rw [hs k]; exact h k hk
theorem nI_beq {b : Nat → Nat} (hb : Bb b) (i j : Nat) : nI (b i) = nI (b j) ↔ b i = b j := nI_eq (by have := hb.1 i; omega) (by have := hb.1 j; omega)
theorem f_same1 {M : Me} {b : Nat → Nat} (hb : Bb b) (hx : BX M b) {i j n : Nat} (hi : i + n < 2 ^ 30) (hj : j + n < 2 ^ 30) (hn : n < 3000) (h : ∀ k, k < n → b (i + k) = b (j + k)) : f_X3_isSame M 2 (nI i) (nI j) (nI n) = some (1, M) := by
  unfold f_X3_isSame l_X3_isSame_3
  refine lp_run _ (fun k => (nI k, M)) n _ (fun kb k hk => ?_) (fun kb => ?_) FU 0 (by omega) (by unfold FU; omega)
  · show g_X3_isSame_3 _ kb 2 (nI i) (nI j) (nI n) (nI k) M = _
    unfold g_X3_isSame_3
    rw [if_neg (nI_ge hk (by omega)), nI_add, nI_add, f_n1 hb hx (by omega), cal_s, f_n1 hb hx (by omega), cal_s, if_pos (by rw [h k hk]), bndV_s, nI_1]
  · show g_X3_isSame_3 _ kb 2 (nI i) (nI j) (nI n) (nI n) M = _
    unfold g_X3_isSame_3
    rw [if_pos (nI_le (Nat.le_refl n) (by omega))]
    exact chZ_1 _
theorem f_same0 {M : Me} {b : Nat → Nat} (hb : Bb b) (hx : BX M b) {i j n : Nat} (hi : i + n < 2 ^ 30) (hj : j + n < 2 ^ 30) (hn : n < 3000) (h : ¬ ∀ k, k < n → b (i + k) = b (j + k)) : f_X3_isSame M 2 (nI i) (nI j) (nI n) = some (0, M) := by
  have hex : ∃ k, k < n ∧ ¬ b (i + k) = b (j + k) := by
    apply Classical.byContradiction
    intro hno
    exact h (fun k hk => Classical.byContradiction (fun z => hno ⟨k, hk, z⟩))
  obtain ⟨m, ⟨hm1, hm2⟩, hm3⟩ := pk_least _ hex
  unfold f_X3_isSame l_X3_isSame_3
  refine lp_run _ (fun k => (nI k, M)) m _ (fun kb k hk => ?_) (fun kb => ?_) FU 0 (by omega) (by unfold FU; omega)
  · show g_X3_isSame_3 _ kb 2 (nI i) (nI j) (nI n) (nI k) M = _
    unfold g_X3_isSame_3
    rw [if_neg (nI_ge (show k < n by omega) (by omega)), nI_add, nI_add, f_n1 hb hx (by omega), cal_s, f_n1 hb hx (by omega), cal_s, if_pos (by rw [Classical.byContradiction (fun z => hm3 k hk ⟨by omega, z⟩)]), bndV_s, nI_1]
  · show g_X3_isSame_3 _ kb 2 (nI i) (nI j) (nI n) (nI m) M = _
    unfold g_X3_isSame_3
    rw [if_neg (nI_ge hm1 (by omega)), nI_add, nI_add, f_n1 hb hx (by omega), cal_s, f_n1 hb hx (by omega), cal_s, if_neg (fun q => hm2 ((nI_beq hb _ _).mp q)), chZ_0]
theorem f_alike1 {M : Me} {b : Nat → Nat} (hb : Bb b) (hy : BYr M b) {i j n : Nat} (hi : i + n ≤ 2100) (hj : j + n ≤ 2100) (h : ∀ k, k < n → b (i + k) = b (j + k)) : f_X5_areAlike M 91 (nI i) (nI j) (nI n) = some (1, M) := by
  unfold f_X5_areAlike l_X5_areAlike_3
  refine lp_run _ (fun k => (nI k, M)) n _ (fun kb k hk => ?_) (fun kb => ?_) FU 0 (by omega) (by unfold FU; omega)
  · show g_X5_areAlike_3 _ kb 91 (nI i) (nI j) (nI n) (nI k) M = _
    unfold g_X5_areAlike_3
    rw [if_neg (nI_ge hk (by omega)), nI_add, nI_add, rf_91_23, chk_n _ (show i + k < ln 111 by rw [ln_111]; omega) (by decide), chk_n _ (show j + k < ln 111 by rw [ln_111]; omega) (by decide), nI_clamp (by omega), nI_clamp (by omega), hy _ (by omega), hy _ (by omega), if_pos (by rw [h k hk]), bndV_s, nI_1]
  · show g_X5_areAlike_3 _ kb 91 (nI i) (nI j) (nI n) (nI n) M = _
    unfold g_X5_areAlike_3
    rw [if_pos (nI_le (Nat.le_refl n) (by omega))]
    exact chZ_1 _
theorem f_alike0 {M : Me} {b : Nat → Nat} (hb : Bb b) (hy : BYr M b) {i j n : Nat} (hi : i + n ≤ 2100) (hj : j + n ≤ 2100) (h : ¬ ∀ k, k < n → b (i + k) = b (j + k)) : f_X5_areAlike M 91 (nI i) (nI j) (nI n) = some (0, M) := by
  have hex : ∃ k, k < n ∧ ¬ b (i + k) = b (j + k) := by
    apply Classical.byContradiction
    intro hno
    exact h (fun k hk => Classical.byContradiction (fun z => hno ⟨k, hk, z⟩))
  obtain ⟨m, ⟨hm1, hm2⟩, hm3⟩ := pk_least _ hex
  unfold f_X5_areAlike l_X5_areAlike_3
  refine lp_run _ (fun k => (nI k, M)) m _ (fun kb k hk => ?_) (fun kb => ?_) FU 0 (by omega) (by unfold FU; omega)
  · show g_X5_areAlike_3 _ kb 91 (nI i) (nI j) (nI n) (nI k) M = _
    unfold g_X5_areAlike_3
    rw [if_neg (nI_ge (show k < n by omega) (by omega)), nI_add, nI_add, rf_91_23, chk_n _ (show i + k < ln 111 by rw [ln_111]; omega) (by decide), chk_n _ (show j + k < ln 111 by rw [ln_111]; omega) (by decide), nI_clamp (by omega), nI_clamp (by omega), hy _ (by omega), hy _ (by omega), if_pos (by rw [Classical.byContradiction (fun z => hm3 k hk ⟨by omega, z⟩)]), bndV_s, nI_1]
  · show g_X5_areAlike_3 _ kb 91 (nI i) (nI j) (nI n) (nI m) M = _
    unfold g_X5_areAlike_3
    rw [if_neg (nI_ge hm1 (by omega)), nI_add, nI_add, rf_91_23, chk_n _ (show i + m < ln 111 by rw [ln_111]; omega) (by decide), chk_n _ (show j + m < ln 111 by rw [ln_111]; omega) (by decide), nI_clamp (by omega), nI_clamp (by omega), hy _ (by omega), hy _ (by omega), if_neg (fun q => hm2 ((nI_beq hb _ _).mp q)), chZ_0]
/-- n bytes from place p on, copied to row r from place t on -/
def cp (f : Nat → Int32) (M : Me) (r t : Nat) (b : Nat → Nat) (p : Nat) : Nat → Me
  | 0 => M
  | k + 1 => sI (cp f M r t b p k) r (t + k) (f (b (p + k)))
theorem cp_ne {f : Nat → Int32} {M : Me} {r t : Nat} {b : Nat → Nat} {p x y : Nat} : ∀ n, ¬ (x = r ∧ t ≤ y ∧ y < t + n) → (cp f M r t b p n).1 x y = M.1 x y
  | 0, _ => rfl
  | n + 1, h => by
    show (sI _ _ _ _).1 x y = _
    rw [sI_ne (by omega)]
    exact cp_ne n (by omega)
theorem cp_at {f : Nat → Int32} {M : Me} {r t : Nat} {b : Nat → Nat} {p : Nat} : ∀ n k, k < n → (cp f M r t b p n).1 r (t + k) = f (b (p + k))
  | 0, k, h => by omega
  | n + 1, k, h => by
    show (sI _ _ _ _).1 _ _ = _
    by_cases q : k = n
    · subst q
      rw [sI_eq]
    · rw [sI_ne (by omega)]
      exact cp_at n k (by omega)
theorem cp_2 {f : Nat → Int32} {M : Me} {r t : Nat} {b : Nat → Nat} {p : Nat} : ∀ n, (cp f M r t b p n).2 = M.2
  | 0 => rfl
  | n + 1 => cp_2 n
theorem f_copy {M : Me} {b : Nat → Nat} (hb : Bb b) (hx : BX M b) {p n r t : Nat} (hr : r ≠ 3) (hl : t + n ≤ ln r) (hl2 : ln r < 1000) (hp : p + n < 2 ^ 31) : f_X3_copyTo M 2 (nI p) (nI n) r (nI t) = some ((), cp bI M r t b p n) := by
  unfold f_X3_copyTo l_X3_copyTo_3
  refine lp_for _ (fun k => cp bI M r t b p k) n _ (fun kb k hk => ?_) (fun kb => ?_) FU 0 (by omega) (by unfold FU; omega)
  · show g_X3_copyTo_3 _ kb 2 (nI p) (nI n) r (nI t) (nI k) (cp bI M r t b p k) = kb (nI (k + 1), sI (cp bI M r t b p k) r (t + k) (bI (b (p + k))))
    unfold g_X3_copyTo_3
    rw [if_neg (nI_ge hk (by omega)), nI_add, nI_add, if_neg (nI_ge (show t + k < ln r by omega) (by omega)), f_n1 hb (hx.same (fun y => cp_ne k (by omega))) (by omega), cal_s, chk_n _ (show t + k < ln r by omega) (by omega), bnd_s, bndV_s, nI_1, nI_clamp (by omega), pk_vb]
    rfl
  · show g_X3_copyTo_3 _ kb 2 (nI p) (nI n) r (nI t) (nI n) (cp bI M r t b p n) = _
    unfold g_X3_copyTo_3
    rw [if_pos (nI_le (Nat.le_refl n) (by omega))]
theorem nm_z {b : Nat → Nat} {i : Nat} : ∀ n, nm b i n = 0 ↔ ∀ k, k < n → b (i + k) = 0
  | 0 => ⟨fun _ k hk => by omega, fun _ => rfl⟩
  | n + 1 => by
    have ih := nm_z (b := b) (i := i) n
    have hp : 0 < 2 ^ (8 * n) := Nat.two_pow_pos _
    show nm b i n + b (i + n) * 2 ^ (8 * n) = 0 ↔ _
    refine ⟨fun h k hk => ?_, fun h => ?_⟩
    · have h1 : nm b i n = 0 := by omega
      have h2 : b (i + n) * 2 ^ (8 * n) = 0 := by omega
      by_cases q : k = n
      · subst q
        rcases Nat.mul_eq_zero.mp h2 with h3 | h3
        · exact h3
        · omega
      · exact ih.mp h1 k (by omega)
    · rw [ih.mpr (fun k hk => h k (by omega)), h n (by omega), Nat.zero_mul]
theorem n2_lt {b : Nat → Nat} (hb : Bb b) (i : Nat) : nm b i 2 < 65536 := nm_lt (i := i) hb.1 2
theorem n4_lt {b : Nat → Nat} (hb : Bb b) (i : Nat) : nm b i 4 < 4294967296 := nm_lt (i := i) hb.1 4
theorem n8_lt {b : Nat → Nat} (hb : Bb b) (i : Nat) : nm b i 8 < 2 ^ 64 := nm_lt (i := i) hb.1 8
