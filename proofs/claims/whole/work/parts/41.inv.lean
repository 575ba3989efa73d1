/-! THE INVARIANT between two calls -/
def isB (x : Int32) : Prop := ∃ v : Nat, v < 256 ∧ x = nI v
/-- an entry's numbers are what they may be -/
def EOK (σ : Nat → Nat → Int32) (i : Nat) : Prop := ∃ nl dl pc : Nat, 1 ≤ nl ∧ nl ≤ 16 ∧ dl ≤ 40 ∧ pc ≤ 3 ∧ σ 95 i = nI nl ∧ σ 104 i = nI dl ∧ σ 99 i = nI pc ∧ (σ 92 i = 0 ∨ σ 92 i = 1 ∨ σ 92 i = 2) ∧ (σ 93 i = 0 ∨ σ 93 i = 1 ∨ σ 93 i = 2) ∧ (σ 103 i = 0 ∨ σ 103 i = 1) ∧ (σ 108 i = 0 ∨ σ 108 i = 1) ∧ (σ 92 i = 2 → dl = 0 ∧ σ 103 i = 0) ∧ (σ 109 i = -1 ∨ 0 ≤ σ 109 i) ∧ ∀ p, p < pc → ∃ w : Nat, w ≤ 8 ∧ σ 101 (3 * i + p) = nI w
def Yh (σ : Nat → Nat → Int32) (n z c : Nat) : Prop := n ≤ 12 ∧ z ≤ 2000 ∧ c ≤ 12 ∧ σ 91 2 = nI n ∧ σ 91 24 = nI z ∧ σ 91 22 = nI c
def Yb (σ : Nat → Nat → Int32) : Prop := (∀ k, k < 192 → isB (σ 94 k)) ∧ (∀ k, k < 288 → isB (σ 102 k)) ∧ (∀ k, k < 480 → isB (σ 105 k)) ∧ (∀ k, k < 12 → isB (σ 110 k)) ∧ (∀ k, k < 2000 → isB (σ 111 k)) ∧ ∀ k, 2000 ≤ k → k < 2100 → σ 111 k = 0
/-- what can be seen of row a, place k -/
def ob (σ : Nat → Nat → Int32) (n a k : Nat) : Prop := ((a = 92 ∨ a = 93 ∨ a = 95 ∨ a = 96 ∨ a = 97 ∨ a = 98 ∨ a = 99 ∨ a = 103 ∨ a = 104 ∨ a = 106 ∨ a = 107 ∨ a = 108 ∨ a = 109) → k < n) ∧ (a = 106 → σ 92 k = 1)
def RE (σx σ : Nat → Nat → Int32) (n : Nat) : Prop := ∀ a k, vd a k → ob σ n a k → σx a k = σ a k
def XB (M : Me) : Prop := ∀ i k, i < 12 → k < 16 → M.1 (20 + 6 * i) k = (M.1 (20 + 6 * i) k).toInt8.toInt32
def IV (M : Me) (n z c : Nat) : Prop := Yh M.1 n z c ∧ Yb M.1 ∧ (∀ i, i < n → EOK M.1 i) ∧ RE (AX M) M.1 n ∧ XB M
def INV (M : Me) : Prop := ∃ n z c : Nat, IV M n z c
/-- what an operation must give -/
def OP (FX FY : Me → Option (Int32 × Me)) (M : Me) : Prop := ∃ (r : Int32) (M1 M2 : Me), FX M = some (r, M1) ∧ FY M1 = some (r, M2) ∧ INV M2
def OPL (FX FY : Me → Option (Int64 × Me)) (M : Me) : Prop := ∃ (r : Int64) (M1 M2 : Me), FX M = some (r, M1) ∧ FY M1 = some (r, M2) ∧ INV M2
theorem EOK.congr {σ σ' : Nat → Nat → Int32} {i : Nat} (h : EOK σ i) (h1 : ∀ a, (a = 92 ∨ a = 93 ∨ a = 95 ∨ a = 99 ∨ a = 103 ∨ a = 104 ∨ a = 108 ∨ a = 109) → σ' a i = σ a i) (h2 : ∀ p, p < 3 → σ' 101 (3 * i + p) = σ 101 (3 * i + p)) : EOK σ' i := by
  obtain ⟨nl, dl, pc, g1, g2, g3, g4, g5, g6, g7, g8, g9, g10, g11, g12, g13, g14⟩ := h
  refine ⟨nl, dl, pc, g1, g2, g3, g4, ?_⟩
  rw [h1 95 (by omega), h1 104 (by omega), h1 99 (by omega), h1 92 (by omega), h1 93 (by omega), h1 103 (by omega), h1 108 (by omega), h1 109 (by omega)]
  refine ⟨g5, g6, g7, g8, g9, g10, g11, g12, g13, fun p hp => ?_⟩
  rw [h2 p (by omega)]
  exact g14 p hp
theorem Yb.congr {σ σ' : Nat → Nat → Int32} (h : Yb σ) (h1 : ∀ a k, (a = 94 ∨ a = 102 ∨ a = 105 ∨ a = 110 ∨ a = 111) → σ' a k = σ a k) : Yb σ' := by
  obtain ⟨g1, g2, g3, g4, g5, g6⟩ := h
  refine ⟨fun k hk => ?_, fun k hk => ?_, fun k hk => ?_, fun k hk => ?_, fun k hk => ?_, fun k hk hk2 => ?_⟩
  · rw [h1 94 k (by omega)]; exact g1 k hk
  · rw [h1 102 k (by omega)]; exact g2 k hk
  · rw [h1 105 k (by omega)]; exact g3 k hk
  · rw [h1 110 k (by omega)]; exact g4 k hk
  · rw [h1 111 k (by omega)]; exact g5 k hk
  · rw [h1 111 k (by omega)]; exact g6 k hk hk2
theorem Yh.congr {σ σ' : Nat → Nat → Int32} {n z c : Nat} (h : Yh σ n z c) (h1 : ∀ k, (k = 2 ∨ k = 22 ∨ k = 24) → σ' 91 k = σ 91 k) : Yh σ' n z c := by
  obtain ⟨g1, g2, g3, g4, g5, g6⟩ := h
  exact ⟨g1, g2, g3, by rw [h1 2 (by omega)]; exact g4, by rw [h1 24 (by omega)]; exact g5, by rw [h1 22 (by omega)]; exact g6⟩
/-- the same write on both sides -/
theorem RE.up {σx σ σx' σ' : Nat → Nat → Int32} {n a0 k0 : Nat} {v : Int32} (h : RE σx σ n) (hx : ∀ a k, vd a k → σx' a k = if a = a0 ∧ k = k0 then v else σx a k) (hy : ∀ a k, vd a k → σ' a k = if a = a0 ∧ k = k0 then v else σ a k) (h92 : a0 = 92 → n ≤ k0) : RE σx' σ' n := by
  intro a k hv ho
  rw [hx a k hv, hy a k hv]
  by_cases q : a = a0 ∧ k = k0
  · rw [if_pos q, if_pos q]
  · rw [if_neg q, if_neg q]
    refine h a k hv ⟨ho.1, fun h106 => ?_⟩
    have h1 := ho.2 h106
    have hkn := ho.1 (by omega)
    have hv2 : vd 92 k := by
      rcases hv with ⟨g, _⟩ | ⟨_, _, g⟩
      · omega
      · refine Or.inr ⟨by omega, by omega, ?_⟩
        subst h106
        exact g
    rw [hy 92 k hv2, if_neg (fun z => by have := h92 z.1.symm; omega)] at h1
    exact h1
theorem RE.same {σx σ σx' σ' : Nat → Nat → Int32} {n : Nat} (h : RE σx σ n) (hx : ∀ a k, vd a k → σx' a k = σx a k) (hy : ∀ a k, vd a k → σ' a k = σ a k) : RE σx' σ' n := RE.up (a0 := 0) (k0 := 0) (v := 0) h (fun a k hv => by rw [hx a k hv, if_neg (fun z => by rcases hv with ⟨g, _⟩ | ⟨g, _⟩ <;> omega)]) (fun a k hv => by rw [hy a k hv, if_neg (fun z => by rcases hv with ⟨g, _⟩ | ⟨g, _⟩ <;> omega)]) (by omega)
theorem vd_ge {a k : Nat} (h : vd a k) : 91 ≤ a := by rcases h with ⟨g, _⟩ | ⟨g, _⟩ <;> omega
theorem vd_91 {k : Nat} (h : vd 91 k) : k = 1 ∨ k = 2 ∨ k = 22 ∨ k = 24 ∨ k = 26 := by
  rcases h with ⟨_, g⟩ | ⟨g, _⟩
  · exact g
  · omega
/-- the reference's own scratch places -/
theorem IV.scr {M : Me} {n z c x y : Nat} {v : Int32} (h : IV M n z c) (hx : (x = 91 ∧ ¬ (y = 1 ∨ y = 2 ∨ y = 22 ∨ y = 24 ∨ y = 26)) ∨ 112 ≤ x) : IV (sI M x y v) n z c := by
  obtain ⟨h1, h2, h3, h4, h5⟩ := h
  have e : ∀ a k, (91 ≤ a ∧ a ≤ 111) → ¬ (a = 91 ∧ ¬ (k = 1 ∨ k = 2 ∨ k = 22 ∨ k = 24 ∨ k = 26)) → (sI M x y v).1 a k = M.1 a k := by
    intro a k ha hk
    rw [sI_1, up2_at, if_neg]
    omega
  refine ⟨h1.congr (fun k hk => e 91 k (by omega) (by omega)), h2.congr (fun a k ha => e a k (by omega) (by omega)), fun i hi => (h3 i hi).congr (fun a ha => e a i (by omega) (by omega)) (fun p hp => e 101 _ (by omega) (by omega)), h4.same (fun a k hv => AX_hi (by omega) hv) (fun a k hv => ?_), fun i k hi hk => ?_⟩
  · rcases hv with ⟨g, g2⟩ | ⟨g, g2, _⟩ <;> exact e a k (by omega) (by omega)
  · have e2 : (sI M x y v).1 (20 + 6 * i) k = M.1 (20 + 6 * i) k := by
      rw [sI_1, up2_at, if_neg (by omega)]
    rw [e2]
    exact h5 i k hi hk
theorem INV.thr {M : Me} {v : Int32} (h : INV M) : INV (sI M 91 0 v) := by
  obtain ⟨n, z, c, h⟩ := h
  exact ⟨n, z, c, h.scr (by omega)⟩
/-! evaluation -/
theorem cal_s {β γ : Type} (r : β) (M : Me) (k : β → Me → Option γ) : cal (some (r, M)) k = k r M := rfl
theorem bnd_s {γ : Type} (M : Me) (A : Me → Option γ) : bnd M A = A M := rfl
theorem bndV_s {τ γ : Type} (x : τ) (A : τ → Option γ) : bndV x A = A x := rfl
theorem chk_n {γ : Type} {j n : Nat} (A : Option γ) (h : j < n) (hn : n < 2 ^ 31) : chk (nI j) n A = A := if_neg (nI_in h hn)
theorem chZ_0 {γ : Type} (A : Option γ) : chZ 0 A = A := if_pos (Or.inl rfl)
theorem chZ_1 {γ : Type} (A : Option γ) : chZ 1 A = A := if_pos (Or.inr rfl)
theorem rf_E (i : Nat) : rf 1 i = 19 + 6 * i := rfl
theorem rf_R (i : Nat) : rf 5 i = 6 + i := rfl
theorem rf_e {i k : Nat} (hi : i < 12) : rf (19 + 6 * i) k = 20 + 6 * i + k := by
  unfold rf
  rw [if_neg (by omega), if_neg (by omega), if_neg (by omega), if_neg (by omega), if_neg (by omega), if_pos (by omega)]
  omega
theorem ln_E {i s : Nat} (hi : i < 12) (hs : s < 5) : ln (20 + 6 * i + s) = if s = 0 then 16 else if s = 1 then 40 else if s = 4 then 24 else 3 := by
  unfold ln
  rw [if_neg (by omega), if_neg (by omega), if_pos (by omega)]
  have e : (20 + 6 * i + s - 19) % 6 = s + 1 := by omega
  rw [e]
  rcases (show s = 0 ∨ s = 1 ∨ s = 2 ∨ s = 3 ∨ s = 4 by omega) with q | q | q | q | q <;> subst q <;> rfl
/-! small numbers -/
theorem nI_lt0 {j : Nat} (h : j < 2 ^ 31) : ¬ nI j < 0 := nI_pos h
theorem x_cases (x : Int32) {n : Nat} (hn : n < 2 ^ 31) : (x < 0 ∨ nI n ≤ x) ∨ ∃ j : Nat, j < n ∧ x = nI j := by
  rcases pk_ix x hn with h | h | h
  · exact Or.inl (Or.inl h)
  · exact Or.inl (Or.inr h)
  · exact Or.inr h
theorem i64_toInt (x : Int32) : x.toInt64.toInt = x.toInt := Int32.toInt_toInt64 x
theorem nI_m1_toInt {n : Nat} (h : n < 2 ^ 30) : (nI n - 1).toInt = (n : Int) - 1 := pk_sub_toInt (b := 1) h (by decide)
theorem f_in (M : Me) (v lo hi : Int64) : f_X5_in M v lo hi = some (if lo.toInt ≤ v.toInt ∧ v.toInt ≤ hi.toInt then 1 else 0, M) := by
  unfold f_X5_in
  rw [chZ_0, chZ_1]
  by_cases h1 : lg_cmp v lo < 0
  · rw [if_pos h1]
    have h2 := (lg_cmp_lt v lo).mp h1
    rw [Int64.lt_iff_toInt_lt] at h2
    rw [if_neg (by omega)]
  · rw [if_neg h1]
    have h2 : ¬ v < lo := fun q => h1 ((lg_cmp_lt v lo).mpr q)
    rw [Int64.lt_iff_toInt_lt] at h2
    by_cases h3 : 0 < lg_cmp v hi
    · rw [if_pos h3]
      have h4 := (lg_cmp_gt v hi).mp h3
      rw [Int64.lt_iff_toInt_lt] at h4
      rw [if_neg (by omega)]
    · rw [if_neg h3]
      have h4 : ¬ hi < v := fun q => h3 ((lg_cmp_gt v hi).mpr q)
      rw [Int64.lt_iff_toInt_lt] at h4
      rw [if_pos (by omega)]
/-- is it an entry's number: both sides alike -/
theorem x_unk {M : Me} {n : Nat} (hn : n ≤ 12) (h : M.1 0 4 = nI n) (x : Int32) : (∃ i, i < n ∧ x = nI i ∧ f_X4_isUnknown M 0 x = some (0, M)) ∨ ((¬ ∃ i, i < n ∧ x = nI i) ∧ f_X4_isUnknown M 0 x = some (1, M)) := by
  unfold f_X4_isUnknown
  rw [chZ_0, chZ_1, h]
  rcases x_cases x (show n < 2 ^ 31 by omega) with q | ⟨i, hi, e⟩
  · refine Or.inr ⟨?_, ?_⟩
    · rintro ⟨i, hi, e⟩
      subst e
      rcases q with q | q
      · exact nI_pos (by omega) q
      · exact nI_ge hi (by omega) q
    · by_cases h0 : x < 0
      · rw [if_pos h0]
      · rw [if_neg h0]
        rcases q with q | q
        · exact absurd q h0
        · rw [if_pos q]
  · subst e
    refine Or.inl ⟨i, hi, rfl, ?_⟩
    have h12 : nI i < (12 : Int32) := nI_lt (b := 12) (by omega) (by decide)
    rw [if_neg (nI_pos (by omega)), if_neg (nI_ge hi (by omega)), if_pos h12]
theorem y_unk {M : Me} {n : Nat} (hn : n ≤ 12) (h : M.1 91 2 = nI n) (x : Int32) : (∃ i, i < n ∧ x = nI i ∧ f_X5_isEntry M 91 x = some (1, M)) ∨ ((¬ ∃ i, i < n ∧ x = nI i) ∧ f_X5_isEntry M 91 x = some (0, M)) := by
  unfold f_X5_isEntry
  rw [h, f_in, cal_s, i64_toInt, i64_toInt, nI_m1_toInt (by omega)]
  rcases x_cases x (show n < 2 ^ 31 by omega) with q | ⟨i, hi, e⟩
  · refine Or.inr ⟨?_, ?_⟩
    · rintro ⟨i, hi, e⟩
      subst e
      rcases q with q | q
      · exact nI_pos (by omega) q
      · exact nI_ge hi (by omega) q
    · have : ¬ ((0 : Int64).toInt ≤ x.toInt ∧ x.toInt ≤ (n : Int) - 1) := by
        rcases q with q | q
        · rw [Int32.lt_iff_toInt_lt] at q
          have q : x.toInt < 0 := q
          have : (0 : Int64).toInt = 0 := rfl
          omega
        · rw [Int32.le_iff_toInt_le, nI_toInt (by omega)] at q
          omega
      rw [if_neg this, chZ_0]
  · subst e
    refine Or.inl ⟨i, hi, rfl, ?_⟩
    have : (0 : Int64).toInt ≤ (nI i).toInt ∧ (nI i).toInt ≤ (n : Int) - 1 := by
      rw [nI_toInt (by omega)]
      have : (0 : Int64).toInt = 0 := rfl
      omega
    rw [if_pos this, chZ_1]
