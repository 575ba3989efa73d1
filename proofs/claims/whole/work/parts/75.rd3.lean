/-! A ROW's extra bytes -/
def wv (b : Nat → Nat) (s x : Nat) : Int32 := if 20 ≤ x ∧ nm b s 2 = 1 ∧ nm b (s + 2) 2 = 16 then 1 else 0
def p0 (b : Nat → Nat) (s x : Nat) : Nat := if 20 ≤ x ∧ nm b s 2 = 1 ∧ nm b (s + 2) 2 = 16 then s + 20 else s
def pp (b : Nat → Nat) (s : Nat) : Nat → Nat
  | 0 => s
  | j + 1 => pp b s j + (4 + nm b (pp b s j + 2) 2)
def gpt (b : Nat → Nat) (p : Nat) : Prop := 2 ≤ nm b p 2 ∧ nm b (p + 2) 2 ≤ 8
def prt (b : Nat → Nat) (s t m : Nat) : Prop := m ≤ 3 ∧ pp b s m = t ∧ ∀ j, j < m → gpt b (pp b s j)
theorem pp_le {b : Nat → Nat} {s i j : Nat} (h : i ≤ j) : pp b s i ≤ pp b s j := by
  have h0 : ∀ d, pp b s i ≤ pp b s (i + d) := by
    intro d
    induction d with
    | zero => exact Nat.le_refl _
    | succ d ih =>
      show _ ≤ pp b s (i + d) + (4 + nm b (pp b s (i + d) + 2) 2)
      omega
  have := h0 (j - i)
  rwa [show i + (j - i) = j by omega] at this
theorem pp_4 {b : Nat → Nat} {s i j : Nat} (h : i < j) : pp b s i + 4 + nm b (pp b s i + 2) 2 ≤ pp b s j := by
  have h1 := pp_le (b := b) (s := s) (show i + 1 ≤ j by omega)
  have h2 : pp b s (i + 1) = pp b s i + (4 + nm b (pp b s i + 2) 2) := rfl
  omega
theorem prt_uniq {b : Nat → Nat} {s t m m' : Nat} (h : prt b s t m) (h' : prt b s t m') : m = m' := by
  rcases Nat.lt_trichotomy m m' with q | q | q
  · have := pp_4 (b := b) (s := s) q
    have := h.2.1
    have := h'.2.1
    omega
  · exact q
  · have := pp_4 (b := b) (s := s) q
    have := h.2.1
    have := h'.2.1
    omega
/-- where the walk over the parts stops -/
theorem prt_stop (b : Nat → Nat) (s t : Nat) : ∃ m, m ≤ 3 ∧ (∀ j, j < m → pp b s j + 4 ≤ t ∧ gpt b (pp b s j)) ∧ ((((m = 3 ∨ t < pp b s m + 4) ∧ pp b s m = t) ∧ prt b s t m) ∨ (((m = 3 ∨ t < pp b s m + 4) ∧ ¬ pp b s m = t) ∧ ¬ ∃ m', prt b s t m') ∨ ((¬ m = 3 ∧ ¬ t < pp b s m + 4 ∧ ¬ gpt b (pp b s m)) ∧ ¬ ∃ m', prt b s t m')) := by
  obtain ⟨m, hm, hmin⟩ := pk_least (fun j => j = 3 ∨ t < pp b s j + 4 ∨ ¬ gpt b (pp b s j)) ⟨3, Or.inl rfl⟩
  have hm3 : m ≤ 3 := by
    rcases Nat.lt_or_ge 3 m with q | q
    · exact absurd (Or.inl rfl) (hmin 3 q)
    · exact q
  have hgo : ∀ j, j < m → pp b s j + 4 ≤ t ∧ gpt b (pp b s j) := by
    intro j hj
    have := hmin j hj
    refine ⟨?_, Classical.byContradiction (fun z => this (Or.inr (Or.inr z)))⟩
    rcases Nat.lt_or_ge t (pp b s j + 4) with q | q
    · exact absurd (Or.inr (Or.inl q)) this
    · exact q
  have huniq : ∀ m', prt b s t m' → m' = m := by
    intro m' h'
    rcases Nat.lt_trichotomy m m' with q | q | q
    · exfalso
      have h1 := pp_4 (b := b) (s := s) q
      have h2 := h'.2.1
      rcases hm with z | z | z
      · have := h'.1; omega
      · omega
      · exact z (h'.2.2 m q)
    · exact q.symm
    · exfalso
      have h1 := (hgo m' q).1
      have h2 := h'.2.1
      omega
  refine ⟨m, hm3, hgo, ?_⟩
  by_cases q1 : m = 3 ∨ t < pp b s m + 4
  · by_cases q2 : pp b s m = t
    · exact Or.inl ⟨⟨q1, q2⟩, hm3, q2, fun j hj => (hgo j hj).2⟩
    · refine Or.inr (Or.inl ⟨⟨q1, q2⟩, ?_⟩)
      rintro ⟨m', h'⟩
      have := huniq m' h'
      subst this
      exact q2 h'.2.1
  · refine Or.inr (Or.inr ⟨⟨fun z => q1 (Or.inl z), fun z => q1 (Or.inr z), ?_⟩, ?_⟩)
    · rcases hm with z | z | z
      · exact absurd (Or.inl z) q1
      · exact absurd (Or.inr z) q1
      · exact z
    · rintro ⟨m', h'⟩
      have := huniq m' h'
      subst this
      exact q1 (Or.inr (by have := h'.2.1; omega))
/-- only a Row's own later numbers have changed -/
def KX (M M' : Me) (a : Nat) : Prop := (∀ x y, ¬ (x = a ∧ (y = 8 ∨ y = 9 ∨ y = 10 ∨ y = 18)) → M'.1 x y = M.1 x y) ∧ (∀ x y, ¬ (x = a ∧ (y = 15 ∨ y = 16)) → M'.2 x y = M.2 x y)
theorem KX.refl {M : Me} {a : Nat} : KX M M a := ⟨fun _ _ _ => rfl, fun _ _ _ => rfl⟩
theorem KX.trans {M M' M'' : Me} {a : Nat} (h : KX M M' a) (h' : KX M' M'' a) : KX M M'' a := ⟨fun x y q => (h'.1 x y q).trans (h.1 x y q), fun x y q => (h'.2 x y q).trans (h.2 x y q)⟩
theorem kx_sI {M M' : Me} {a k : Nat} {v : Int32} (h : KX M M' a) (hk : k = 8 ∨ k = 9 ∨ k = 10 ∨ k = 18) : KX M (sI M' a k v) a := ⟨fun x y q => by rw [sI_ne (by omega)]; exact h.1 x y q, h.2⟩
theorem kx_sL {M M' : Me} {a k : Nat} {v : Int64} (h : KX M M' a) (hk : k = 15 ∨ k = 16) : KX M (sL M' a k v) a := ⟨h.1, fun x y q => by rw [sL_ne (by omega)]; exact h.2 x y q⟩
theorem KX.rf {M M' : Me} {b : Nat → Nat} {a q : Nat} (h : KX M M' a) (hr : RF M b a q) : RF M' b a q := hr.same (fun y hy => h.1 a y (by omega)) (fun y hy => h.2 a y (by omega))
theorem KX.bx {M M' : Me} {b : Nat → Nat} {a : Nat} (h : KX M M' a) (ha : 6 ≤ a) (hx : BX M b) : BX M' b := hx.same (fun y => h.1 3 y (by omega))
theorem sI_sI {M : Me} {a k : Nat} {v w : Int32} : sI (sI M a k v) a k w = sI M a k w := by
  refine Prod.ext ?_ rfl
  show up2 (up2 M.1 a k v) a k w = up2 M.1 a k w
  funext x y
  rw [up2_at, up2_at, up2_at]
  by_cases q : x = a ∧ y = k
  · rw [if_pos q, if_pos q]
  · rw [if_neg q, if_neg q, if_neg q]
/-- the walk over the parts -/
theorem f_105 {M : Me} {b : Nat → Nat} {a s t : Nat} (hb : Bb b) (hx : BX M b) (ha : 6 ≤ a) (hs : s ≤ 2100) (ht : t ≤ 2100) : ∃ M', KX M M' a ∧ M'.1 a 8 = nI s ∧ M'.1 a 10 = M.1 a 10 ∧ (∀ y, M'.2 a y = M.2 a y) ∧ (∀ m, prt b s t m → M'.1 a 9 = nI m ∧ j_X2_takeExtra_105 a 2 (nI t) (nI s) M = some (1, M')) ∧ ((¬ ∃ m, prt b s t m) → j_X2_takeExtra_105 a 2 (nI t) (nI s) M = some (0, M')) := by
  obtain ⟨m, hm3, hgo, hcase⟩ := prt_stop b s t
  have hppb : ∀ j, j ≤ m → pp b s j ≤ 2100 + 12 * j := by
    intro j
    induction j with
    | zero => intro _; exact hs
    | succ j ih =>
      intro hj
      have h1 := ih (by omega)
      have h2 := (hgo j (by omega)).2.2
      show pp b s j + (4 + nm b (pp b s j + 2) 2) ≤ _
      omega
  obtain ⟨M0, hM0⟩ : ∃ M0, M0 = sI M a 8 (nI s) := ⟨_, rfl⟩
  have hj : ∀ v : Int32, KX M (sI M0 a 9 v) a := fun v => kx_sI (by rw [hM0]; exact kx_sI KX.refl (by omega)) (by omega)
  have hloop : ∀ K, (∀ kb, g_X2_takeExtra_115 (fun v17 M18 => j_X2_takeExtra_177 (nI t) v17 M18) kb a 2 (nI t) (nI (pp b s m)) (sI M0 a 9 (nI m)) = K) → j_X2_takeExtra_105 a 2 (nI t) (nI s) M = K := by
    intro K hK
    unfold j_X2_takeExtra_105
    rw [bnd_s, bnd_s, ← hM0]
    unfold l_X2_takeExtra_115
    refine lp_run _ (fun j => (nI (pp b s j), sI M0 a 9 (nI j))) m _ (fun kb j hjm => ?_) (fun kb => hK kb) FU 0 (by omega) (by unfold FU; omega)
    show g_X2_takeExtra_115 _ kb a 2 (nI t) (nI (pp b s j)) (sI M0 a 9 (nI j)) = kb (nI (pp b s j + (4 + nm b (pp b s j + 2) 2)), sI M0 a 9 (nI (j + 1)))
    have hxj := (hj (nI j)).bx ha hx
    have h1 := hppb j (by omega)
    have h2 := hgo j hjm
    have h3 := n2_lt hb (pp b s j)
    have h2a := h2.2.1
    have h2b := h2.2.2
    unfold g_X2_takeExtra_115
    rw [sI_eq, if_neg (show ¬ (3 : Int32) ≤ nI j from nI_ge (b := 3) (by omega) (by decide)), show (4 : Int32) = nI 4 from rfl, nI_add, if_neg (nI_nlt h2.1 (by omega)), show (2 : Int32) = nI 2 from rfl, nI_add, f_n2 hb hxj (by omega), cal_s, f_n2 hb hxj (by omega), cal_s, if_neg (show ¬ nI (nm b (pp b s j) 2) ≤ (1 : Int32) from nI_ge (a := 1) (by omega) (by omega)), if_pos (show nI (nm b (pp b s j + 2) 2) ≤ (8 : Int32) from nI_le (b := 8) h2b (by decide)), nI_add, nI_add, bndV_s, bnd_s, sI_eq, nI_1, sI_sI]
  refine ⟨sI M0 a 9 (nI m), hj _, ?_, ?_, fun y => ?_, fun m' hp => ?_, fun hno => ?_⟩
  · rw [sI_ne (by omega), hM0, sI_eq]
  · rw [sI_ne (by omega), hM0, sI_ne (by omega)]
  · rw [hM0]; rfl
  · rcases hcase with ⟨⟨q1, q2⟩, q3⟩ | ⟨_, q3⟩ | ⟨_, q3⟩
    · have e := prt_uniq hp q3
      subst e
      refine ⟨sI_eq, hloop _ (fun kb => ?_)⟩
      unfold g_X2_takeExtra_115 j_X2_takeExtra_177
      dsimp only
      rw [sI_eq, q2, if_pos (show nI t = nI t from rfl), chZ_1]
      rcases q1 with q1 | q1
      · rw [if_pos (by rw [q1]; decide)]
      · by_cases z : (3 : Int32) ≤ nI m'
        · rw [if_pos z]
        · rw [if_neg z, show (4 : Int32) = nI 4 from rfl, nI_add, if_pos (nI_lt (by omega) (by omega))]
    · exact absurd ⟨m', hp⟩ q3
    · exact absurd ⟨m', hp⟩ q3
  · have hpm := hppb m (Nat.le_refl m)
    rcases hcase with ⟨_, q3⟩ | ⟨⟨q1, q2⟩, _⟩ | ⟨⟨q1, q2, q3⟩, _⟩
    · exact absurd ⟨m, q3⟩ hno
    · refine hloop _ (fun kb => ?_)
      unfold g_X2_takeExtra_115 j_X2_takeExtra_177
      dsimp only
      rw [sI_eq, if_neg (show ¬ nI (pp b s m) = nI t from fun z => q2 ((nI_eq (by omega) (by omega)).mp z)), chZ_0]
      rcases q1 with q1 | q1
      · rw [if_pos (by rw [q1]; decide)]
      · by_cases z : (3 : Int32) ≤ nI m
        · rw [if_pos z]
        · rw [if_neg z, show (4 : Int32) = nI 4 from rfl, nI_add, if_pos (nI_lt (by omega) (by omega))]
    · refine hloop _ (fun kb => ?_)
      have hxj := (hj (nI m)).bx ha hx
      have h3 := n2_lt hb (pp b s m)
      have h4 := n2_lt hb (pp b s m + 2)
      unfold g_X2_takeExtra_115
      rw [sI_eq, if_neg (show ¬ (3 : Int32) ≤ nI m from nI_ge (b := 3) (by omega) (by decide)), show (4 : Int32) = nI 4 from rfl, nI_add, if_neg (nI_nlt (by omega) (by omega)), show (2 : Int32) = nI 2 from rfl, nI_add, f_n2 hb hxj (by omega), cal_s, f_n2 hb hxj (by omega), cal_s, chZ_0]
      by_cases g1 : 2 ≤ nm b (pp b s m) 2
      · rw [if_neg (show ¬ nI (nm b (pp b s m) 2) ≤ (1 : Int32) from nI_ge (a := 1) (by omega) (by omega))]
        have g2 : ¬ nm b (pp b s m + 2) 2 ≤ 8 := fun z => q3 ⟨g1, z⟩
        rw [if_neg (show ¬ nI (nm b (pp b s m + 2) 2) ≤ (8 : Int32) from nI_ge (a := 8) (by omega) (by omega))]
      · rw [if_pos (show nI (nm b (pp b s m) 2) ≤ (1 : Int32) from nI_le (b := 1) (by omega) (by decide))]
