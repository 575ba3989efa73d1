/-! names -/
theorem lp_hit {γ : Type} (g : (Int32 × Me → Option γ) → Int32 × Me → Option γ) (M : Me) (n : Nat) (P : Nat → Prop) (E : Option γ) (h1 : ∀ kb j, j < n → P j → g kb (nI j, M) = E) (h2 : ∀ kb j, j < n → ¬ P j → g kb (nI j, M) = kb (nI (j + 1), M)) : ∀ fuel j, n - j < fuel → (∃ i, j ≤ i ∧ i < n ∧ P i) → lp g fuel (nI j, M) = E := by
  intro fuel
  induction fuel with
  | zero => intro j h; omega
  | succ f ih =>
    intro j hf hex
    show g (lp g f) (nI j, M) = E
    obtain ⟨i, hi1, hi2, hi3⟩ := hex
    by_cases hp : P j
    · exact h1 _ j (by omega) hp
    · rw [h2 _ j (by omega) hp]
      have : i ≠ j := fun e => hp (e ▸ hi3)
      exact ih (j + 1) (by omega) ⟨i, by omega, hi2, hi3⟩
theorem lp_all {γ : Type} (g : (Int32 × Me → Option γ) → Int32 × Me → Option γ) (M : Me) (n : Nat) (P : Nat → Prop) (K : Option γ) (h2 : ∀ kb j, j < n → ¬ P j → g kb (nI j, M) = kb (nI (j + 1), M)) (h3 : ∀ kb, g kb (nI n, M) = K) (hno : ¬ ∃ i, i < n ∧ P i) : ∀ fuel j, j ≤ n → n - j < fuel → lp g fuel (nI j, M) = K := lp_for g (fun _ => M) n K (fun kb j hj => h2 kb j hj (fun q => hno ⟨j, hj, q⟩)) h3
def zer (a : Int64) (n : Nat) : Prop := ∃ j, j < n ∧ byv a (n - 1 - j) = 0
theorem nI_z {b : Nat} (h : b < 256) : nI b = 0 ↔ b = 0 := ⟨fun q => (nI_eq (show b < 2 ^ 31 by omega) (show 0 < 2 ^ 31 by decide)).mp q, fun q => by rw [q]; rfl⟩
theorem f_zero1 {M : Me} {a : Int64} {n : Nat} (hn : n ≤ 8) (h : zer a n) : f_X5_hasZero M a (nI n) = some (1, M) := by
  unfold f_X5_hasZero l_X5_hasZero_2
  refine lp_hit _ M n (fun j => byv a (n - 1 - j) = 0) _ (fun kb j hj hp => ?_) (fun kb j hj hp => ?_) FU 0 (by unfold FU; omega) ?_
  · show g_X5_hasZero_2 _ kb a (nI n) (nI j) M = _
    unfold g_X5_hasZero_2
    rw [if_neg (nI_ge hj (by omega)), f_byt a hn hj, cal_s, if_pos ((nI_z (byv_lt _ _)).mpr hp), chZ_1]
  · show g_X5_hasZero_2 _ kb a (nI n) (nI j) M = _
    unfold g_X5_hasZero_2
    rw [if_neg (nI_ge hj (by omega)), f_byt a hn hj, cal_s, if_neg (fun q => hp ((nI_z (byv_lt _ _)).mp q)), bndV_s, nI_1]
  · obtain ⟨j, hj, e⟩ := h
    exact ⟨j, by omega, hj, e⟩
theorem f_zero0 {M : Me} {a : Int64} {n : Nat} (hn : n ≤ 8) (h : ¬ zer a n) : f_X5_hasZero M a (nI n) = some (0, M) := by
  unfold f_X5_hasZero l_X5_hasZero_2
  refine lp_all _ M n (fun j => byv a (n - 1 - j) = 0) _ (fun kb j hj hp => ?_) (fun kb => ?_) h FU 0 (by omega) (by unfold FU; omega)
  · show g_X5_hasZero_2 _ kb a (nI n) (nI j) M = _
    unfold g_X5_hasZero_2
    rw [if_neg (nI_ge hj (by omega)), f_byt a hn hj, cal_s, if_neg (fun q => hp ((nI_z (byv_lt _ _)).mp q)), bndV_s, nI_1]
  · show g_X5_hasZero_2 _ kb a (nI n) (nI n) M = _
    unfold g_X5_hasZero_2
    rw [if_pos (nI_le (Nat.le_refl n) (by omega))]
    exact chZ_0 _
theorem f_fit0 {M : Me} {kd0 : Int32} {a : Int64} {n : Nat} (h1 : 1 ≤ n) (hn : n ≤ 8) (h : zer a n ∨ (¬ kd0 = 2 ∧ byv a 0 = 47)) : f_X4_fitsName M kd0 a (nI n) = some (0, M) := by
  unfold f_X4_fitsName
  rw [if_neg (show ¬ nI n < (1 : Int32) from nI_nlt (b := 1) h1 (by omega)), if_pos (show nI n ≤ (8 : Int32) from nI_le (b := 8) hn (by decide))]
  unfold l_X4_fitsName_16
  by_cases hz : zer a n
  · refine lp_hit _ M n (fun j => byv a (n - 1 - j) = 0) _ (fun kb j hj hp => ?_) (fun kb j hj hp => ?_) FU 0 (by unfold FU; omega) ?_
    · show g_X4_fitsName_16 _ kb kd0 a (nI n) (nI j) M = _
      unfold g_X4_fitsName_16
      rw [if_neg (nI_ge hj (by omega)), f_oct a hn hj, cal_s, if_pos ((nI_z (byv_lt _ _)).mpr hp), chZ_0]
    · show g_X4_fitsName_16 _ kb kd0 a (nI n) (nI j) M = _
      unfold g_X4_fitsName_16
      rw [if_neg (nI_ge hj (by omega)), f_oct a hn hj, cal_s, if_neg (fun q => hp ((nI_z (byv_lt _ _)).mp q)), bndV_s, nI_1]
    · obtain ⟨j, hj, e⟩ := hz
      exact ⟨j, by omega, hj, e⟩
  · rcases h with h | ⟨hk, h47⟩
    · exact absurd h hz
    · refine lp_all _ M n (fun j => byv a (n - 1 - j) = 0) _ (fun kb j hj hp => ?_) (fun kb => ?_) hz FU 0 (by omega) (by unfold FU; omega)
      · show g_X4_fitsName_16 _ kb kd0 a (nI n) (nI j) M = _
        unfold g_X4_fitsName_16
        rw [if_neg (nI_ge hj (by omega)), f_oct a hn hj, cal_s, if_neg (fun q => hp ((nI_z (byv_lt _ _)).mp q)), bndV_s, nI_1]
      · show g_X4_fitsName_16 _ kb kd0 a (nI n) (nI n) M = _
        unfold g_X4_fitsName_16
        rw [if_pos (nI_le (Nat.le_refl n) (by omega))]
        show (if kd0 = 2 then _ else _) = _
        rw [if_neg hk, su_1 h1, f_oct a hn (by omega), cal_s, show n - 1 - (n - 1) = 0 by omega, h47, if_pos (show nI 47 = (47 : Int32) from rfl), chZ_0]
theorem f_fit1 {M : Me} {kd0 : Int32} {a : Int64} {n : Nat} (h1 : 1 ≤ n) (hn : n ≤ 8) (hz : ¬ zer a n) (h : kd0 = 2 ∨ byv a 0 ≠ 47) : f_X4_fitsName M kd0 a (nI n) = some (1, M) := by
  unfold f_X4_fitsName
  rw [if_neg (show ¬ nI n < (1 : Int32) from nI_nlt (b := 1) h1 (by omega)), if_pos (show nI n ≤ (8 : Int32) from nI_le (b := 8) hn (by decide))]
  unfold l_X4_fitsName_16
  refine lp_all _ M n (fun j => byv a (n - 1 - j) = 0) _ (fun kb j hj hp => ?_) (fun kb => ?_) hz FU 0 (by omega) (by unfold FU; omega)
  · show g_X4_fitsName_16 _ kb kd0 a (nI n) (nI j) M = _
    unfold g_X4_fitsName_16
    rw [if_neg (nI_ge hj (by omega)), f_oct a hn hj, cal_s, if_neg (fun q => hp ((nI_z (byv_lt _ _)).mp q)), bndV_s, nI_1]
  · show g_X4_fitsName_16 _ kb kd0 a (nI n) (nI n) M = _
    unfold g_X4_fitsName_16
    rw [if_pos (nI_le (Nat.le_refl n) (by omega))]
    show (if kd0 = 2 then _ else _) = _
    by_cases hk : kd0 = 2
    · rw [if_pos hk, chZ_1]
    · have h47 : byv a 0 ≠ 47 := h.resolve_left hk
      have hb := byv_lt a 0
      rw [if_neg hk, su_1 h1, f_oct a hn (by omega), cal_s, show n - 1 - (n - 1) = 0 by omega, if_neg (show ¬ nI (byv a 0) = (47 : Int32) from fun q => h47 ((nI_eq (show byv a 0 < 2 ^ 31 by omega) (show 47 < 2 ^ 31 by decide)).mp q)), chZ_1]
/-- out of its range n fits no name -/
theorem f_fitR {M : Me} {kd0 : Int32} {a : Int64} {x : Int32} (h : ¬ (1 ≤ x.toInt ∧ x.toInt ≤ 8)) : f_X4_fitsName M kd0 a x = some (0, M) := by
  unfold f_X4_fitsName
  by_cases h1 : x < 1
  · rw [if_pos h1, chZ_0]
  · rw [if_neg h1, if_neg (fun q => ?_), chZ_0]
    rw [lec, t3_8] at q
    rw [ltc, t3_1] at h1
    omega
theorem a255 (a : Int64) : a &&& 255 = lN (byv a 0) := by
  obtain ⟨N, hN, e⟩ := wb_of a
  subst e
  have h := wb_mask (n := N) (k := 8) hN (by decide)
  have h2 : byv (lN N) 0 = N % 2 ^ 8 := by
    unfold byv
    rw [wb_tn hN]
    simp
  rw [h2]
  exact h
theorem slash_iff (a : Int64) : (lg_cmp (a &&& 255) 47 = 0) ↔ byv a 0 = 47 := by
  rw [lg_cmp_eq, a255]
  have hb := byv_lt a 0
  exact lN_eq (b := 47) (by omega) (by decide)
theorem XB.upb {M : Me} {x y : Nat} {v : Int32} (h : XB M) (hv : v = v.toInt8.toInt32) : XB (sI M x y v) := by
  intro i k hi hk
  rw [sI_1, up2_at]
  by_cases q : 20 + 6 * i = x ∧ k = y
  · rw [if_pos q]; exact hv
  · rw [if_neg q]; exact h i k hi hk
theorem b47 : vp_nar .byte (47 : Int32) = 47 := by decide +kernel
theorem b47b : (47 : Int32) = (47 : Int32).toInt8.toInt32 := by decide +kernel
theorem vd_l {i k : Nat} (hi : i < 12) (hk : k < 16) : vd 94 (16 * i + k) := Or.inr ⟨by omega, by omega, show 16 * i + k < 192 by omega⟩
theorem loc_l {i k : Nat} (hk : k < 16) : loc 94 (16 * i + k) = (20 + 6 * i, k) := by
  show (20 + 6 * ((16 * i + k) / 16), (16 * i + k) % 16) = _
  rw [show (16 * i + k) / 16 = i by omega, show (16 * i + k) % 16 = k by omega]
theorem m47 : msk 94 47 = nI 47 := by decide +kernel
