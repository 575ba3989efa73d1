/-! an entry of ZipForms as the rows σ tell it (its place of LOCAL aside) -/
def EX (M : Me) (σ : Nat → Nat → Int32) (i : Nat) : Prop := M.1 (19 + 6 * i) 5 = σ 92 i ∧ M.1 (19 + 6 * i) 6 = σ 93 i ∧ M.1 (19 + 6 * i) 7 = σ 95 i ∧ M.1 (19 + 6 * i) 8 = σ 104 i ∧ M.1 (19 + 6 * i) 9 = σ 99 i ∧ M.1 (19 + 6 * i) 10 = σ 103 i ∧ M.1 (19 + 6 * i) 11 = σ 108 i ∧ (σ 92 i = 1 → M.1 (19 + 6 * i) 12 = σ 106 i) ∧ M.1 (19 + 6 * i) 13 = σ 107 i ∧ M.1 (19 + 6 * i) 14 = σ 96 i ∧ M.1 (19 + 6 * i) 15 = σ 97 i ∧ M.1 (19 + 6 * i) 16 = σ 98 i ∧ (∀ k, k < 16 → M.1 (20 + 6 * i) k &&& 255 = σ 94 (16 * i + k)) ∧ (∀ k, k < 40 → M.1 (21 + 6 * i) k &&& 255 = σ 105 (40 * i + k)) ∧ (∀ k, k < 3 → M.1 (22 + 6 * i) k = σ 100 (3 * i + k)) ∧ (∀ k, k < 3 → M.1 (23 + 6 * i) k = σ 101 (3 * i + k)) ∧ ∀ k, k < 24 → M.1 (24 + 6 * i) k &&& 255 = σ 102 (24 * i + k)
theorem EX.k5 {M : Me} {σ : Nat → Nat → Int32} {i : Nat} (h : EX M σ i) : M.1 (19 + 6 * i) 5 = σ 92 i := h.1
theorem EX.k6 {M : Me} {σ : Nat → Nat → Int32} {i : Nat} (h : EX M σ i) : M.1 (19 + 6 * i) 6 = σ 93 i := h.2.1
theorem EX.k7 {M : Me} {σ : Nat → Nat → Int32} {i : Nat} (h : EX M σ i) : M.1 (19 + 6 * i) 7 = σ 95 i := h.2.2.1
theorem EX.k8 {M : Me} {σ : Nat → Nat → Int32} {i : Nat} (h : EX M σ i) : M.1 (19 + 6 * i) 8 = σ 104 i := h.2.2.2.1
theorem EX.k9 {M : Me} {σ : Nat → Nat → Int32} {i : Nat} (h : EX M σ i) : M.1 (19 + 6 * i) 9 = σ 99 i := h.2.2.2.2.1
theorem EX.k10 {M : Me} {σ : Nat → Nat → Int32} {i : Nat} (h : EX M σ i) : M.1 (19 + 6 * i) 10 = σ 103 i := h.2.2.2.2.2.1
theorem EX.k11 {M : Me} {σ : Nat → Nat → Int32} {i : Nat} (h : EX M σ i) : M.1 (19 + 6 * i) 11 = σ 108 i := h.2.2.2.2.2.2.1
theorem EX.k12 {M : Me} {σ : Nat → Nat → Int32} {i : Nat} (h : EX M σ i) (q : σ 92 i = 1) : M.1 (19 + 6 * i) 12 = σ 106 i := h.2.2.2.2.2.2.2.1 q
theorem EX.k13 {M : Me} {σ : Nat → Nat → Int32} {i : Nat} (h : EX M σ i) : M.1 (19 + 6 * i) 13 = σ 107 i := h.2.2.2.2.2.2.2.2.1
theorem EX.k14 {M : Me} {σ : Nat → Nat → Int32} {i : Nat} (h : EX M σ i) : M.1 (19 + 6 * i) 14 = σ 96 i := h.2.2.2.2.2.2.2.2.2.1
theorem EX.k15 {M : Me} {σ : Nat → Nat → Int32} {i : Nat} (h : EX M σ i) : M.1 (19 + 6 * i) 15 = σ 97 i := h.2.2.2.2.2.2.2.2.2.2.1
theorem EX.k16 {M : Me} {σ : Nat → Nat → Int32} {i : Nat} (h : EX M σ i) : M.1 (19 + 6 * i) 16 = σ 98 i := h.2.2.2.2.2.2.2.2.2.2.2.1
theorem EX.lt {M : Me} {σ : Nat → Nat → Int32} {i : Nat} (h : EX M σ i) {k : Nat} (hk : k < 16) : M.1 (20 + 6 * i) k &&& 255 = σ 94 (16 * i + k) := h.2.2.2.2.2.2.2.2.2.2.2.2.1 k hk
theorem EX.oc {M : Me} {σ : Nat → Nat → Int32} {i : Nat} (h : EX M σ i) {k : Nat} (hk : k < 40) : M.1 (21 + 6 * i) k &&& 255 = σ 105 (40 * i + k) := h.2.2.2.2.2.2.2.2.2.2.2.2.2.1 k hk
theorem EX.pid {M : Me} {σ : Nat → Nat → Int32} {i : Nat} (h : EX M σ i) {k : Nat} (hk : k < 3) : M.1 (22 + 6 * i) k = σ 100 (3 * i + k) := h.2.2.2.2.2.2.2.2.2.2.2.2.2.2.1 k hk
theorem EX.psz {M : Me} {σ : Nat → Nat → Int32} {i : Nat} (h : EX M σ i) {k : Nat} (hk : k < 3) : M.1 (23 + 6 * i) k = σ 101 (3 * i + k) := h.2.2.2.2.2.2.2.2.2.2.2.2.2.2.2.1 k hk
theorem EX.pby {M : Me} {σ : Nat → Nat → Int32} {i : Nat} (h : EX M σ i) {k : Nat} (hk : k < 24) : M.1 (24 + 6 * i) k &&& 255 = σ 102 (24 * i + k) := h.2.2.2.2.2.2.2.2.2.2.2.2.2.2.2.2 k hk
theorem IV.ex {M : Me} {n z c i : Nat} (h : IV M n z c) (hi : i < n) : EX M M.1 i := by
  have h12 : i < 12 := by have := h.1.1; omega
  exact ⟨h.xk hi, h.x6 hi, h.x7 hi, h.x8 hi, h.x9 hi, h.x10 hi, h.x11 hi, fun q => h.x12 hi q, h.x13 hi, h.x14 hi, h.x15 hi, h.x16 hi, fun k hk => h.xlet h12 hk, fun k hk => h.xoct h12 hk, fun k hk => h.xpid h12 hk, fun k hk => h.xpsz h12 hk, fun k hk => h.xpby h12 hk⟩
theorem EX.stab {M M' : Me} {σ : Nat → Nat → Int32} {i : Nat} (h : EX M σ i) (hs : ∀ x y, 19 + 6 * i ≤ x → x ≤ 24 + 6 * i → ¬ (x = 19 + 6 * i ∧ y = 17) → M'.1 x y = M.1 x y) : EX M' σ i := by
  have s0 : ∀ y, y ≠ 17 → M'.1 (19 + 6 * i) y = M.1 (19 + 6 * i) y := fun y hy => hs _ _ (by omega) (by omega) (by omega)
  refine ⟨?_, ?_, ?_, ?_, ?_, ?_, ?_, fun q => ?_, ?_, ?_, ?_, ?_, fun k hk => ?_, fun k hk => ?_, fun k hk => ?_, fun k hk => ?_, fun k hk => ?_⟩
  · rw [s0 _ (by decide)]; exact h.k5
  · rw [s0 _ (by decide)]; exact h.k6
  · rw [s0 _ (by decide)]; exact h.k7
  · rw [s0 _ (by decide)]; exact h.k8
  · rw [s0 _ (by decide)]; exact h.k9
  · rw [s0 _ (by decide)]; exact h.k10
  · rw [s0 _ (by decide)]; exact h.k11
  · rw [s0 _ (by decide)]; exact h.k12 q
  · rw [s0 _ (by decide)]; exact h.k13
  · rw [s0 _ (by decide)]; exact h.k14
  · rw [s0 _ (by decide)]; exact h.k15
  · rw [s0 _ (by decide)]; exact h.k16
  · rw [hs _ _ (by omega) (by omega) (by omega)]; exact h.lt hk
  · rw [hs _ _ (by omega) (by omega) (by omega)]; exact h.oc hk
  · rw [hs _ _ (by omega) (by omega) (by omega)]; exact h.pid hk
  · rw [hs _ _ (by omega) (by omega) (by omega)]; exact h.psz hk
  · rw [hs _ _ (by omega) (by omega) (by omega)]; exact h.pby hk
/-- the reference's rows of entries are σ -/
def EY (M : Me) (σ : Nat → Nat → Int32) : Prop := ∀ a k, 92 ≤ a → a ≤ 108 → M.1 a k = σ a k
theorem EY.up {M : Me} {σ : Nat → Nat → Int32} {x y : Nat} {v : Int32} (h : EY M σ) (hx : x < 92 ∨ 108 < x) : EY (sI M x y v) σ := fun a k h1 h2 => by rw [sI_ne (by omega)]; exact h a k h1 h2
/-! the sum -/
def cr1 (s : Int32) : Int32 := if s &&& 1 = 0 then iUshr s 1 else iUshr s 1 ^^^ (-306674912)
def crk (s : Int32) : Nat → Int32
  | 0 => s
  | k + 1 => cr1 (crk s k)
def crc (d : Nat → Int32) : Nat → Int32
  | 0 => -1
  | k + 1 => crk (crc d k ^^^ d k) 8
theorem crc_cong {d e : Nat → Int32} : ∀ n, (∀ k, k < n → d k = e k) → crc d n = crc e n
  | 0, _ => rfl
  | n + 1, h => by
    show crk (crc d n ^^^ d n) 8 = crk (crc e n ^^^ e n) 8
    rw [crc_cong n (fun k hk => h k (by omega)), h n (by omega)]
theorem bit01 (s : Int32) : s &&& 1 = 0 ∨ s &&& 1 = 1 := by
  rw [pk_and s (m := 1) 1 (by decide)]
  rcases Nat.mod_two_eq_zero_or_one s.toBitVec.toNat with h | h
  · exact Or.inl (by rw [show 2 ^ 1 = 2 from rfl, h]; rfl)
  · exact Or.inr (by rw [show 2 ^ 1 = 2 from rfl, h]; rfl)
theorem l_cr8X {M : Me} {kx : Int32 → Int32 → Me → Option (Int32 × Me)} {r : Nat} {x1 x3 s : Int32} : l_X4_sumOf_28 kx r x1 s x3 0 M = kx (crk s 8) 8 M := by
  unfold l_X4_sumOf_28
  refine lp_run _ (fun j => (crk s j, nI j, M)) 8 _ (fun kb j hj => ?_) (fun kb => ?_) FU 0 (by omega) (by unfold FU; omega)
  · show g_X4_sumOf_28 _ kb r x1 (crk s j) x3 (nI j) M = kb (cr1 (crk s j), nI (j + 1), M)
    unfold g_X4_sumOf_28 j_X4_sumOf_53
    rw [if_neg (show ¬ (8 : Int32) ≤ nI j from nI_ge (b := 8) hj (by decide)), nI_1]
    by_cases q : crk s j &&& 1 = 0
    · rw [if_pos q, bndV_s, show cr1 (crk s j) = _ from if_pos q]
    · rw [if_neg q, bndV_s, show cr1 (crk s j) = _ from if_neg q]
  · show g_X4_sumOf_28 _ kb r x1 (crk s 8) x3 8 M = _
    unfold g_X4_sumOf_28
    rw [if_pos (by decide)]
theorem l_cr8Y {M : Me} {kx : Int32 → Int32 → Me → Option (Int32 × Me)} {r : Nat} {x1 x3 s : Int32} : l_X5_sumOf_31 kx r x1 s x3 0 M = kx (crk s 8) 8 M := by
  unfold l_X5_sumOf_31
  refine lp_run _ (fun j => (crk s j, nI j, M)) 8 _ (fun kb j hj => ?_) (fun kb => ?_) FU 0 (by omega) (by unfold FU; omega)
  · show g_X5_sumOf_31 _ kb r x1 (crk s j) x3 (nI j) M = kb (cr1 (crk s j), nI (j + 1), M)
    unfold g_X5_sumOf_31 j_X5_sumOf_61
    rw [if_neg (show ¬ (8 : Int32) ≤ nI j from nI_ge (b := 8) hj (by decide)), nI_1, bndV_s, bndV_s]
    rcases bit01 (crk s j) with q | q
    · rw [if_neg (by rw [q]; decide), bndV_s, show cr1 (crk s j) = _ from if_pos q]
    · rw [if_pos q, bndV_s, show cr1 (crk s j) = _ from if_neg (by rw [q]; decide)]
  · show g_X5_sumOf_31 _ kb r x1 (crk s 8) x3 8 M = _
    unfold g_X5_sumOf_31
    rw [if_pos (by decide)]
theorem f_sumOfX {M : Me} {r n : Nat} (hn : n ≤ ln r) (hl : ln r < 1000) : f_X4_sumOf M r (nI n) = some (crc (fun k => M.1 r k &&& 255) n ^^^ (-1), M) := by
  unfold f_X4_sumOf l_X4_sumOf_4
  refine lp_run _ (fun j => (crc (fun k => M.1 r k &&& 255) j, nI j, M)) n _ (fun kb j hj => ?_) (fun kb => ?_) FU 0 (by omega) (by unfold FU; omega)
  · show g_X4_sumOf_4 _ kb r (nI n) (crc _ j) (nI j) M = _
    unfold g_X4_sumOf_4
    rw [if_neg (nI_ge hj (by omega)), if_neg (nI_ge (show j < ln r by omega) (by omega)), chk_n _ (show j < ln r by omega) (by omega), bndV_s, l_cr8X, bndV_s, nI_1, nI_clamp (by omega)]
    rfl
  · show g_X4_sumOf_4 _ kb r (nI n) (crc _ n) (nI n) M = _
    unfold g_X4_sumOf_4
    rw [if_pos (nI_le (Nat.le_refl n) (by omega))]
theorem f_sumOfY {M : Me} {i n : Nat} (hi : i < 12) (hn : n ≤ 40) (hl : M.1 104 i = nI n) : f_X5_sumOf M 91 (nI i) = some (crc (fun k => M.1 105 (40 * i + k)) n ^^^ (-1), M) := by
  unfold f_X5_sumOf l_X5_sumOf_4
  refine lp_run _ (fun j => (crc (fun k => M.1 105 (40 * i + k)) j, nI j, M)) n _ (fun kb j hj => ?_) (fun kb => ?_) FU 0 (by omega) (by unfold FU; omega)
  · show g_X5_sumOf_4 _ kb 91 (nI i) (crc _ j) (nI j) M = _
    unfold g_X5_sumOf_4
    rw [rf_91_15, rf_91_16, chk_n _ (show i < ln 104 by rw [ln_104]; omega) (by decide), nI_clamp (by omega), hl, if_neg (nI_ge hj (by omega)), mu_40, nI_add, chk_n _ (show 40 * i + j < ln 105 by rw [ln_105]; omega) (by decide), bndV_s, l_cr8Y, bndV_s, nI_1, nI_clamp (by omega)]
    rfl
  · show g_X5_sumOf_4 _ kb 91 (nI i) (crc _ n) (nI n) M = _
    unfold g_X5_sumOf_4
    rw [rf_91_15, chk_n _ (show i < ln 104 by rw [ln_104]; omega) (by decide), nI_clamp (by omega), hl, if_pos (nI_le (Nat.le_refl n) (by omega))]
/-- an entry's sum, its true size -/
def sof (σ : Nat → Nat → Int32) (i : Nat) : Int32 := crc (fun k => σ 105 (40 * i + k)) (σ 104 i).toNatClampNeg ^^^ (-1)
def smv (σ : Nat → Nat → Int32) (i : Nat) : Int32 := if σ 92 i = 2 then 0 else if σ 92 i = 1 then σ 107 i else if σ 108 i = 0 then sof σ i else σ 107 i
def tsz (σ : Nat → Nat → Int32) (i : Nat) : Int32 := if σ 92 i = 2 then 0 else if σ 92 i = 1 then σ 106 i else σ 104 i
theorem f_soX {M : Me} {σ : Nat → Nat → Int32} {i : Nat} (h : EX M σ i) (e : EOK σ i) (hi : i < 12) : f_X4_sumOf M (21 + 6 * i) (σ 104 i) = some (sof σ i, M) := by
  obtain ⟨nl, dl, pc, g1, g2, g3, g4, g5, g6, _⟩ := e
  have hl := ln_e1 hi
  unfold sof
  rw [g6, f_sumOfX (by omega) (by omega), nI_clamp (by omega), crc_cong dl (fun k hk => h.oc (show k < 40 by omega))]
theorem f_soY {M : Me} {σ : Nat → Nat → Int32} {i : Nat} (h : EY M σ) (e : EOK σ i) (hi : i < 12) : f_X5_sumOf M 91 (nI i) = some (sof σ i, M) := by
  obtain ⟨nl, dl, pc, g1, g2, g3, g4, g5, g6, _⟩ := e
  unfold sof
  rw [f_sumOfY hi g3 (by rw [h 104 i (by omega) (by omega)]; exact g6), g6, nI_clamp (by omega), crc_cong dl (fun k hk => h 105 (40 * i + k) (by omega) (by omega))]
theorem f_smX {M : Me} {σ : Nat → Nat → Int32} {i : Nat} (h : EX M σ i) (e : EOK σ i) (hi : i < 12) : f_X0_sum M (19 + 6 * i) = some (smv σ i, M) := by
  unfold f_X0_sum smv
  rw [h.k5, h.k13, h.k11, h.k8, rf_e1 hi, f_soX h e hi, cal_s]
  by_cases q1 : σ 92 i = 2
  · rw [if_pos q1, if_pos q1]
  · rw [if_neg q1, if_neg q1]
    by_cases q2 : σ 92 i = 1
    · rw [if_pos q2, if_pos q2]
    · rw [if_neg q2, if_neg q2]
      by_cases q3 : σ 108 i = 0
      · rw [if_pos q3, if_pos q3]
      · rw [if_neg q3, if_neg q3]
theorem f_smY {M : Me} {σ : Nat → Nat → Int32} {i : Nat} (h : EY M σ) (e : EOK σ i) (hi : i < 12) : f_X5_sum M 91 (nI i) = some (smv σ i, M) := by
  unfold f_X5_sum smv j_X5_sum_33
  rw [rf_91_3, rf_91_18, rf_91_19, f_soY h e hi, cal_s, nI_clamp (by omega), h 92 i (by omega) (by omega), h 107 i (by omega) (by omega), h 108 i (by omega) (by omega), chk_n _ (show i < ln 92 by rw [ln_92]; omega) (by decide), chk_n _ (show i < ln 92 by rw [ln_92]; omega) (by decide), chk_n _ (show i < ln 107 by rw [ln_107]; omega) (by decide), chk_n _ (show i < ln 108 by rw [ln_108]; omega) (by decide)]
  by_cases q1 : σ 92 i = 2
  · rw [if_pos q1, if_pos q1]
  · rw [if_neg q1, if_neg q1]
    by_cases q2 : σ 92 i = 1
    · rw [if_pos q2, if_pos q2]
    · rw [if_neg q2, if_neg q2]
      by_cases q3 : σ 108 i = 0
      · rw [if_pos q3, if_pos q3]
      · rw [if_neg q3, if_neg q3]
theorem f_tsX {M : Me} {σ : Nat → Nat → Int32} {i : Nat} (h : EX M σ i) (e : EOK σ i) : f_X0_trueSize M (19 + 6 * i) = some (tsz σ i, M) := by
  obtain ⟨nl, dl, pc, g1, g2, g3, g4, g5, g6, g7, g8, g9, g10, g11, g12, _⟩ := e
  unfold f_X0_trueSize tsz
  rw [h.k5, h.k8]
  by_cases q1 : σ 92 i = 2
  · rw [if_neg (by rw [q1]; decide), if_pos q1, g6, (g12 q1).1]
    rfl
  · rw [if_neg q1]
    by_cases q2 : σ 92 i = 1
    · rw [if_pos q2, if_pos q2, h.k12 q2]
    · rw [if_neg q2, if_neg q2]
theorem f_tsY {M : Me} {σ : Nat → Nat → Int32} {i : Nat} (h : EY M σ) (hi : i < 12) : f_X5_trueSize M 91 (nI i) = some (tsz σ i, M) := by
  unfold f_X5_trueSize tsz
  rw [rf_91_3, rf_91_17, rf_91_15, nI_clamp (by omega), h 92 i (by omega) (by omega), h 106 i (by omega) (by omega), h 104 i (by omega) (by omega), chk_n _ (show i < ln 92 by rw [ln_92]; omega) (by decide), chk_n _ (show i < ln 92 by rw [ln_92]; omega) (by decide), chk_n _ (show i < ln 106 by rw [ln_106]; omega) (by decide), chk_n _ (show i < ln 104 by rw [ln_104]; omega) (by decide)]
  by_cases q1 : σ 92 i = 2
  · rw [if_pos q1, if_pos q1]
  · rw [if_neg q1, if_neg q1]
    by_cases q2 : σ 92 i = 1
    · rw [if_pos q2, if_pos q2]
    · rw [if_neg q2, if_neg q2]
