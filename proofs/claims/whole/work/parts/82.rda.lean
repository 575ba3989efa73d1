/-! THE REFERENCE's look at a path -/
theorem s_87 {M : Me} {b : Nat → Nat} {s a k : Nat} {v x4 : Int32} (hb : Bb b) (hy : BYr M b) (hs : s + k + 1 < 2100) (ha : a ≤ k) (hv : v = 0 ∨ v = 1) (kx : Int32 → Int32 → Int32 → Me → Option (Int32 × Me)) (kb : Int32 × Int32 × Int32 × Me → Option (Int32 × Me)) : ((v = 1 ∧ sS b s a (k - a)) → j_X5_isSafe_87 kx kb 91 v (nI (s + a)) (nI (s + k)) x4 M = j_X5_isSafe_141 kx kb 91 1 (nI (s + k + 1)) (nI (s + k)) x4 M) ∧ (¬ (v = 1 ∧ sS b s a (k - a)) → j_X5_isSafe_87 kx kb 91 v (nI (s + a)) (nI (s + k)) x4 M = j_X5_isSafe_141 kx kb 91 0 (nI (s + k + 1)) (nI (s + k)) x4 M) := by
  unfold j_X5_isSafe_87 j_X5_isSafe_135 j_X5_isSafe_131 j_X5_isSafe_136
  rw [pk_sub (show s + a ≤ s + k by omega), bndV_s, bndV_s, bndV_s, nI_1, nI_1, show s + k - (s + a) = k - a by omega]
  rcases hv with hv | hv
  · subst hv
    rw [if_pos (show (0 : Int32) = 0 from rfl)]
    exact ⟨fun z => absurd z.1 (by decide), fun _ => rfl⟩
  · subst hv
    rw [if_neg ne10, rf_91_23, chk_n _ (show s + a < ln 111 by rw [ln_111]; omega) (by decide), chk_n _ (show s + a + 1 < ln 111 by rw [ln_111]; omega) (by decide), nI_clamp (by omega), nI_clamp (by omega), hy _ (by omega), hy _ (by omega)]
    have e2 : (nI (k - a) = (2 : Int32)) ↔ k - a = 2 := nI_eq (b := 2) (by omega) (by decide)
    have e0 : (nI (k - a) ≤ (0 : Int32)) ↔ k - a = 0 := by
      rw [lec, nI_toInt (by omega), t3_0]
      omega
    have e3 : (nI (b (s + a)) = (46 : Int32)) ↔ b (s + a) = 46 := nI_bc hb _ 46 (by decide)
    have e4 : (nI (b (s + a + 1)) = (46 : Int32)) ↔ b (s + a + 1) = 46 := nI_bc hb _ 46 (by decide)
    simp only [e2, e0, e3, e4]
    unfold sS
    refine ⟨fun h => ?_, fun h => ?_⟩
    · have h2 := h.2
      repeat' split
      all_goals first | rfl | (exfalso; omega)
    · have h2 : ¬ (k - a ≠ 0 ∧ ¬ (k - a = 2 ∧ b (s + a) = 46 ∧ b (s + a + 1) = 46)) := fun z => h ⟨trivial, z⟩
      repeat' split
      all_goals first | rfl | (exfalso; omega)
theorem s_141 {M : Me} {b : Nat → Nat} {s k : Nat} {v w : Int32} (hb : Bb b) (hy : BYr M b) (hs : s + k + 1 < 2100) (hv : v = 0 ∨ v = 1) (kx : Int32 → Int32 → Int32 → Me → Option (Int32 × Me)) (kb : Int32 × Int32 × Int32 × Me → Option (Int32 × Me)) : ((v = 1 ∧ b (s + k) ≠ 92) → j_X5_isSafe_141 kx kb 91 v w (nI (s + k)) 0 M = kb (1, w, nI (s + k + 1), M)) ∧ (¬ (v = 1 ∧ b (s + k) ≠ 92) → j_X5_isSafe_141 kx kb 91 v w (nI (s + k)) 0 M = kb (0, w, nI (s + k + 1), M)) := by
  unfold j_X5_isSafe_141 j_X5_isSafe_165 j_X5_isSafe_161 j_X5_isSafe_166
  rw [bndV_s, bndV_s, nI_1]
  have e : (nI (b (s + k)) = (92 : Int32)) ↔ b (s + k) = 92 := nI_bc hb _ 92 (by decide)
  rcases hv with hv | hv
  · subst hv
    rw [if_pos (show (0 : Int32) = 0 from rfl)]
    exact ⟨fun z => absurd z.1 (by decide), fun _ => rfl⟩
  · subst hv
    rw [if_neg ne10, if_pos (show (0 : Int32) = 0 from rfl), rf_91_23, chk_n _ (show s + k < ln 111 by rw [ln_111]; omega) (by decide), nI_clamp (by omega), hy _ (by omega)]
    by_cases q : b (s + k) = 92
    · rw [if_pos (e.mpr q)]
      exact ⟨fun z => absurd q z.2, fun _ => rfl⟩
    · rw [if_neg (fun z => q (e.mp z))]
      exact ⟨fun _ => rfl, fun z => absurd ⟨rfl, q⟩ z⟩
theorem s_141L {M : Me} {x : Nat} {v w : Int32} (hv : v = 0 ∨ v = 1) (kx : Int32 → Int32 → Int32 → Me → Option (Int32 × Me)) (kb : Int32 × Int32 × Int32 × Me → Option (Int32 × Me)) : j_X5_isSafe_141 kx kb 91 v w (nI x) 1 M = kb (v, w, nI (x + 1), M) := by
  unfold j_X5_isSafe_141 j_X5_isSafe_165 j_X5_isSafe_161 j_X5_isSafe_166
  rw [bndV_s, bndV_s, nI_1]
  rcases hv with hv | hv
  · subst hv
    rw [if_pos (show (0 : Int32) = 0 from rfl)]
  · subst hv
    rw [if_neg ne10, if_neg ne10]
def fP (b : Nat → Nat) (s k : Nat) : Prop := b s ≠ 47 ∧ ∀ j, j < k → gl b s j
theorem fP_s {b : Nat → Nat} {s k : Nat} : fP b s (k + 1) ↔ fP b s k ∧ gl b s k := by
  refine ⟨fun h => ⟨⟨h.1, fun j hj => h.2 j (by omega)⟩, h.2 k (by omega)⟩, fun h => ⟨h.1.1, fun j hj => ?_⟩⟩
  by_cases q : j = k
  · subst q
    exact h.2
  · exact h.1.2 j (by omega)
theorem f_sfY {M : Me} {b : Nat → Nat} {s n : Nat} (hb : Bb b) (hy : BYr M b) (h34 : M.1 91 34 = nI s) (h35 : M.1 91 35 = nI n) (hs : s ≤ 2000) (hn : 1 ≤ n) (hn2 : n ≤ 16) : (safe b s n → f_X5_isSafe M 91 = some (1, M)) ∧ (¬ safe b s n → f_X5_isSafe M 91 = some (0, M)) := by
  have h0 : b s = 47 → ¬ safe b s n := by
    intro e z
    have := (z.1 0 (by omega)).2 e
    exact this.1 rfl
  have hfin : fP b s n ∧ (stp b s n = n ∨ sS b s (stp b s n) (n - stp b s n)) ↔ safe b s n := by
    refine ⟨fun h => ⟨h.1.2, h.2⟩, fun h => ⟨⟨fun e => h0 e h, h.1⟩, h.2⟩⟩
  have step : ∀ kx k (v : Int32), k < n → ((v = 1 ∧ fP b s k) ∨ (v = 0 ∧ ¬ fP b s k)) → ∃ v', ((v' = 1 ∧ fP b s (k + 1)) ∨ (v' = 0 ∧ ¬ fP b s (k + 1))) ∧ ∀ kb, g_X5_isSafe_30 kx kb 91 v (nI (s + stp b s k)) (nI (s + k)) M = kb (v', nI (s + stp b s (k + 1)), nI (s + (k + 1)), M) := by
    intro kx k v hk hv
    have hsl := stp_le b s k
    have hv01 : v = 0 ∨ v = 1 := by
      rcases hv with ⟨q, _⟩ | ⟨q, _⟩
      · exact Or.inr q
      · exact Or.inl q
    have e1 : stp b s (k + 1) = if b (s + k) = 47 then k + 1 else stp b s k := rfl
    have e47 : (nI (b (s + k)) = (47 : Int32)) ↔ b (s + k) = 47 := nI_bc hb _ 47 (by decide)
    have pre : ∀ kb, g_X5_isSafe_30 kx kb 91 v (nI (s + stp b s k)) (nI (s + k)) M = if nI (b (s + k)) = (47 : Int32) then j_X5_isSafe_87 kx kb 91 v (nI (s + stp b s k)) (nI (s + k)) 0 M else j_X5_isSafe_141 kx kb 91 v (nI (s + stp b s k)) (nI (s + k)) 0 M := by
      intro kb
      unfold g_X5_isSafe_30 j_X5_isSafe_61
      rw [h34, h35, nI_add, if_neg (nI_nlt (by omega) (by omega)), if_neg (show ¬ nI (s + k) = nI (s + n) from fun z => by have := (nI_eq (by omega) (by omega)).mp z; omega), if_pos (show (0 : Int32) = 0 from rfl), rf_91_23, chk_n _ (show s + k < ln 111 by rw [ln_111]; omega) (by decide), nI_clamp (by omega), hy _ (by omega)]
    by_cases q47 : b (s + k) = 47
    · rw [e1, if_pos q47]
      have hv1 : ∀ v1 : Int32, (v1 = 0 ∨ v1 = 1) → ∀ kb, j_X5_isSafe_141 kx kb 91 v1 (nI (s + k + 1)) (nI (s + k)) 0 M = kb (v1, nI (s + k + 1), nI (s + k + 1), M) := by
        intro v1 h1 kb
        have s1 := s_141 (w := nI (s + k + 1)) hb hy (show s + k + 1 < 2100 by omega) h1 kx kb
        rcases h1 with h1 | h1
        · rw [s1.2 (fun z => by rw [h1] at z; exact absurd z.1 (by decide)), h1]
        · rw [s1.1 ⟨h1, by omega⟩, h1]
      by_cases g : v = 1 ∧ sS b s (stp b s k) (k - stp b s k)
      · refine ⟨1, Or.inl ⟨rfl, ?_⟩, fun kb => ?_⟩
        · refine fP_s.mpr ⟨?_, by omega, fun _ => g.2⟩
          rcases hv with ⟨_, q⟩ | ⟨q, _⟩
          · exact q
          · rw [q] at g; exact absurd g.1 (by decide)
        · rw [pre, if_pos (e47.mpr q47), (s_87 hb hy (show s + k + 1 < 2100 by omega) hsl hv01 kx kb).1 g]
          exact hv1 1 (Or.inr rfl) kb
      · refine ⟨0, Or.inr ⟨rfl, ?_⟩, fun kb => ?_⟩
        · intro z
          have z2 := fP_s.mp z
          rcases hv with ⟨q, _⟩ | ⟨_, q⟩
          · exact g ⟨q, z2.2.2 q47⟩
          · exact q z2.1
        · rw [pre, if_pos (e47.mpr q47), (s_87 hb hy (show s + k + 1 < 2100 by omega) hsl hv01 kx kb).2 g]
          exact hv1 0 (Or.inl rfl) kb
    · rw [e1, if_neg q47]
      by_cases g : v = 1 ∧ b (s + k) ≠ 92
      · refine ⟨1, Or.inl ⟨rfl, ?_⟩, fun kb => ?_⟩
        · refine fP_s.mpr ⟨?_, g.2, fun z => absurd z q47⟩
          rcases hv with ⟨_, q⟩ | ⟨q, _⟩
          · exact q
          · rw [q] at g; exact absurd g.1 (by decide)
        · rw [pre, if_neg (fun z => q47 (e47.mp z)), (s_141 hb hy (show s + k + 1 < 2100 by omega) hv01 kx kb).1 g]
          rfl
      · refine ⟨0, Or.inr ⟨rfl, ?_⟩, fun kb => ?_⟩
        · intro z
          have z2 := fP_s.mp z
          rcases hv with ⟨q, _⟩ | ⟨_, q⟩
          · exact g ⟨q, z2.2.1⟩
          · exact q z2.1
        · rw [pre, if_neg (fun z => q47 (e47.mp z)), (s_141 hb hy (show s + k + 1 < 2100 by omega) hv01 kx kb).2 g]
          rfl
  have last : ∀ kx (v : Int32), ((v = 1 ∧ fP b s n) ∨ (v = 0 ∧ ¬ fP b s n)) → ∃ v' w, ((v' = 1 ∧ safe b s n) ∨ (v' = 0 ∧ ¬ safe b s n)) ∧ ∀ kb, g_X5_isSafe_30 kx kb 91 v (nI (s + stp b s n)) (nI (s + n)) M = kb (v', w, nI (s + n + 1), M) := by
    intro kx v hv
    have hsl := stp_le b s n
    have hv01 : v = 0 ∨ v = 1 := by
      rcases hv with ⟨q, _⟩ | ⟨q, _⟩
      · exact Or.inr q
      · exact Or.inl q
    have pre : ∀ kb, g_X5_isSafe_30 kx kb 91 v (nI (s + stp b s n)) (nI (s + n)) M = if nI (s + n) ≤ nI (s + stp b s n) then j_X5_isSafe_141 kx kb 91 v (nI (s + stp b s n)) (nI (s + n)) 1 M else j_X5_isSafe_87 kx kb 91 v (nI (s + stp b s n)) (nI (s + n)) 1 M := by
      intro kb
      unfold g_X5_isSafe_30 j_X5_isSafe_61
      rw [h34, h35, nI_add, if_neg (nI_nlt (Nat.le_refl _) (by omega)), if_pos (show nI (s + n) = nI (s + n) from rfl), if_neg ne10]
    by_cases g0 : stp b s n = n
    · refine ⟨v, nI (s + stp b s n), ?_, fun kb => ?_⟩
      · rcases hv with ⟨q, z⟩ | ⟨q, z⟩
        · exact Or.inl ⟨q, hfin.mp ⟨z, Or.inl g0⟩⟩
        · exact Or.inr ⟨q, fun y => z (hfin.mpr y).1⟩
      · rw [pre, if_pos (nI_le (by omega) (by omega)), s_141L hv01]
    · by_cases g : v = 1 ∧ sS b s (stp b s n) (n - stp b s n)
      · refine ⟨1, nI (s + n + 1), Or.inl ⟨rfl, ?_⟩, fun kb => ?_⟩
        · rcases hv with ⟨_, q⟩ | ⟨q, _⟩
          · exact hfin.mp ⟨q, Or.inr g.2⟩
          · rw [q] at g; exact absurd g.1 (by decide)
        · rw [pre, if_neg (nI_ge (by omega) (by omega)), (s_87 hb hy (show s + n + 1 < 2100 by omega) hsl hv01 kx kb).1 g, s_141L (Or.inr rfl)]
      · refine ⟨0, nI (s + n + 1), Or.inr ⟨rfl, ?_⟩, fun kb => ?_⟩
        · intro z
          have z2 := hfin.mpr z
          rcases hv with ⟨q, _⟩ | ⟨_, q⟩
          · exact g ⟨q, z2.2.resolve_left g0⟩
          · exact q z2.1
        · rw [pre, if_neg (nI_ge (by omega) (by omega)), (s_87 hb hy (show s + n + 1 < 2100 by omega) hsl hv01 kx kb).2 g, s_141L (Or.inl rfl)]
  have run : ∀ v : Int32, ((v = 1 ∧ fP b s 0) ∨ (v = 0 ∧ ¬ fP b s 0)) → ∃ v' : Int32, ((v' = 1 ∧ safe b s n) ∨ (v' = 0 ∧ ¬ safe b s n)) ∧ j_X5_isSafe_19 91 v M = some (v', M) := by
    intro v hv
    unfold j_X5_isSafe_19 l_X5_isSafe_30
    rw [h34, bndV_s, bndV_s]
    have := lp_inv (g := fun kb (z : Int32 × Int32 × Int32 × Me) => g_X5_isSafe_30 (fun v11 v12 v13 M14 => chZ v11 (some (v11, M14))) kb 91 z.1 z.2.1 z.2.2.1 z.2.2.2) (fun k st => (k ≤ n → ∃ v, st = (v, nI (s + stp b s k), nI (s + k), M) ∧ ((v = 1 ∧ fP b s k) ∨ (v = 0 ∧ ¬ fP b s k))) ∧ (k = n + 1 → ∃ v w, st = (v, w, nI (s + n + 1), M) ∧ ((v = 1 ∧ safe b s n) ∨ (v = 0 ∧ ¬ safe b s n)))) (fun R => ∃ v' : Int32, ((v' = 1 ∧ safe b s n) ∨ (v' = 0 ∧ ¬ safe b s n)) ∧ R = some (v', M)) (n + 1) (fun k st hk hI => ?_) (fun st hI => ?_) FU 0 (v, nI s, nI s, M) (by omega) (by unfold FU; omega) ⟨fun _ => ⟨v, rfl, hv⟩, fun h => by omega⟩
    · obtain ⟨R, ⟨v', e1, e2⟩, e3⟩ := this
      exact ⟨v', e1, e3.trans e2⟩
    · by_cases hlt : k < n
      · obtain ⟨v, e, hv⟩ := hI.1 (by omega)
        subst e
        obtain ⟨v', h1, h2⟩ := step (fun v11 v12 v13 M14 => chZ v11 (some (v11, M14))) k v hlt hv
        exact ⟨_, ⟨fun _ => ⟨v', rfl, h1⟩, fun h => by omega⟩, h2⟩
      · have e : k = n := by omega
        subst e
        obtain ⟨v, e, hv⟩ := hI.1 (by omega)
        subst e
        obtain ⟨v', w, h1, h2⟩ := last (fun v11 v12 v13 M14 => chZ v11 (some (v11, M14))) v hv
        exact ⟨_, ⟨fun h => by omega, fun _ => ⟨v', w, rfl, h1⟩⟩, h2⟩
    · obtain ⟨v, w, e, hv⟩ := hI.2 rfl
      subst e
      refine ⟨_, ⟨v, hv, rfl⟩, fun kb => ?_⟩
      show g_X5_isSafe_30 _ kb 91 v w (nI (s + n + 1)) M = _
      unfold g_X5_isSafe_30
      rw [h34, h35, nI_add, if_pos (nI_lt (by omega) (by omega))]
      rcases hv with ⟨q, _⟩ | ⟨q, _⟩
      · subst q
        exact chZ_1 _
      · subst q
        exact chZ_0 _
  have e47 : (nI (b s) = (47 : Int32)) ↔ b s = 47 := nI_bc hb _ 47 (by decide)
  have fin : ∃ v' : Int32, ((v' = 1 ∧ safe b s n) ∨ (v' = 0 ∧ ¬ safe b s n)) ∧ f_X5_isSafe M 91 = some (v', M) := by
    unfold f_X5_isSafe
    rw [h34, rf_91_23, chk_n _ (show s < ln 111 by rw [ln_111]; omega) (by decide), nI_clamp (by omega), hy _ (by omega)]
    by_cases q : b s = 47
    · rw [if_pos (e47.mpr q)]
      exact run 0 (Or.inr ⟨rfl, fun z => z.1 q⟩)
    · rw [if_neg (fun z => q (e47.mp z))]
      exact run 1 (Or.inl ⟨rfl, q, fun j hj => by omega⟩)
  obtain ⟨v', h1, h2⟩ := fin
  rcases h1 with ⟨e, h⟩ | ⟨e, h⟩
  · subst e
    exact ⟨fun _ => h2, fun z => absurd h z⟩
  · subst e
    exact ⟨fun z => absurd z h, fun _ => h2⟩
