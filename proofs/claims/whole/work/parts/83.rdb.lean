/-! THE REFERENCE's look at the local row and the data -/
def FR (i : Nat) (M M' : Me) : Prop := ∀ x y, ¬ (x = 91 ∧ (y = 27 ∨ y = 28 ∨ (34 ≤ y ∧ y ≤ 38))) → ¬ ((x = 113 ∨ x = 114) ∧ y = i) → M'.1 x y = M.1 x y
theorem FR.refl {i : Nat} {M : Me} : FR i M M := fun _ _ _ _ => rfl
theorem FR.trans {i : Nat} {M M' M'' : Me} (h : FR i M M') (h' : FR i M' M'') : FR i M M'' := fun x y h1 h2 => (h' x y h1 h2).trans (h x y h1 h2)
theorem FR.up {i : Nat} {M M' : Me} {x y : Nat} {v : Int32} (h : FR i M M') (hx : (x = 91 ∧ (y = 27 ∨ y = 28)) ∨ ((x = 113 ∨ x = 114) ∧ y = i)) : FR i M (sI M' x y v) := fun x y h1 h2 => by rw [sI_ne (by omega)]; exact h x y h1 h2
theorem FR.flt {i : Nat} {M M' : Me} {v w : Int32} (h : FR i M M') : FR i M (sI (sI M' 91 27 v) 91 28 w) := (h.up (by omega)).up (by omega)
theorem FR.by {i : Nat} {M M' : Me} {b : Nat → Nat} (h : FR i M M') (hy : BYr M b) : BYr M' b := hy.same (fun y => h 111 y (by omega) (by omega))
theorem KY.fr {i : Nat} {M M' : Me} (h : KY M M') : FR i M M' := fun x y h1 h2 => h x y (by omega)
def LZ (M : Me) (b : Nat → Nat) (q cf : Nat) : Prop := M.1 91 34 = nI (q + 46) ∧ M.1 91 35 = nI (rN b q) ∧ M.1 91 36 = nI (rE b q) ∧ M.1 91 31 = nI cf ∧ M.2 91 39 = psz b q ∧ M.2 91 41 = lN (lcl b q)
theorem LZ.up {M : Me} {b : Nat → Nat} {q cf x y : Nat} {v : Int32} (h : LZ M b q cf) (hx : x ≠ 91 ∨ y = 27 ∨ y = 28) : LZ (sI M x y v) b q cf := by
  obtain ⟨h1, h2, h3, h4, h5, h6⟩ := h
  exact ⟨by rw [sI_ne (by omega)]; exact h1, by rw [sI_ne (by omega)]; exact h2, by rw [sI_ne (by omega)]; exact h3, by rw [sI_ne (by omega)]; exact h4, h5, h6⟩
theorem c_6 {M : Me} {b : Nat → Nat} {q cf : Nat} {x1 x3 : Int32} (hb : Bb b) (hy : BYr M b) (hz : LZ M b q cf) (h27 : M.1 91 27 = 0) (hc : cf ≤ 2000) : (C6 b cf q → f_X5_checkLocal M 91 x1 (nI q) x3 = j_X5_checkLocal_98 91 x1 (nI q) x3 (nI (lcl b q)) 1 M) ∧ (¬ C6 b cf q → f_X5_checkLocal M 91 x1 (nI q) x3 = some ((), sI (sI M 91 27 6) 91 28 (nI (lcl b q)))) := by
  obtain ⟨z1, z2, z3, z4, z5, z6⟩ := hz
  have hl := n4_lt hb (q + 42)
  have el : nm b (q + 42) 4 = lcl b q := rfl
  rw [el] at hl
  have e98 : ∀ x5, j_X5_checkLocal_98 91 x1 (nI q) x3 x5 0 M = some ((), sI (sI M 91 27 6) 91 28 (nI (lcl b q))) := by
    intro x5
    unfold j_X5_checkLocal_98
    rw [w_f h27 (by decide), cal_s, if_pos (show (0 : Int32) = 0 from rfl), z6, lN_i]
  have e37 : j_X5_checkLocal_37 91 x1 (nI q) x3 M = some ((), sI (sI M 91 27 6) 91 28 (nI (lcl b q))) := by
    unfold j_X5_checkLocal_37 j_X5_checkLocal_38 j_X5_checkLocal_54 j_X5_checkLocal_97
    rw [if_pos (show (0 : Int32) = 0 from rfl), if_pos (show (0 : Int32) = 0 from rfl)]
    exact e98 _
  unfold f_X5_checkLocal
  rw [e37, z6, z4, lN_i, nI_l (by omega), show (30 : Int64) = lN 30 from rfl, lN_add]
  simp only [lgg]
  rw [lN_tI (by omega), lN_tI (by omega)]
  by_cases h1 : lcl b q + 30 ≤ cf
  · have h2 := n2_lt hb (lcl b q + 26)
    have h3 := n2_lt hb (lcl b q + 28)
    have h4 := n4_lt hb (lcl b q)
    have e1 : (lg_cmp (lN (nm b (lcl b q) 4)) (67324752 : Int64) = 0) = (nm b (lcl b q) 4 = 67324752) := lN_lgE (c := 67324752) (by omega) (by decide)
    rw [if_neg (by omega), f_four hb hy (by omega), cal_s]
    by_cases h5 : nm b (lcl b q) 4 = 67324752
    · rw [if_pos (by rw [e1]; exact h5)]
      unfold j_X5_checkLocal_38 j_X5_checkLocal_54 j_X5_checkLocal_97
      rw [if_neg ne10, if_neg ne10, z6, lN_i, show (26 : Int32) = nI 26 from rfl, nI_add, f_two hb hy (by omega), cal_s, show (28 : Int32) = nI 28 from rfl, nI_add, f_two hb hy (by omega), cal_s, show (30 : Int32) = nI 30 from rfl, nI_add, nI_add, nI_add, z4, e98]
      by_cases h6 : lcl b q + 30 + nm b (lcl b q + 26) 2 + nm b (lcl b q + 28) 2 ≤ cf
      · rw [if_neg (nI_nlt (by omega) (by omega))]
        exact ⟨fun _ => rfl, fun z => absurd ⟨h1, h5, h6⟩ z⟩
      · rw [if_pos (nI_lt (by omega) (by omega))]
        exact ⟨fun z => absurd z.2.2 h6, fun _ => rfl⟩
    · rw [if_neg (by rw [e1]; exact h5)]
      exact ⟨fun z => absurd z.2.1 h5, fun _ => e37⟩
  · rw [if_pos (by omega)]
    exact ⟨fun z => absurd z.1 h1, fun _ => rfl⟩
def A12 (b : Nat → Nat) (q k : Nat) : Prop := b (lcl b q + 14 + k) = if flg b q = 8 then 0 else b (q + 16 + k)
/-- the twelve bytes -/
theorem c_185 {M : Me} {b : Nat → Nat} {q : Nat} {x1 : Int32} (kx : Int32 → Int32 → Me → Option (Unit × Me)) (hb : Bb b) (hy : BYr M b) (hq : q + 46 ≤ 2000) (hl : lcl b q + 30 ≤ 2000) (v : Int32) (hv : v = 0 ∨ v = 1) : ((v = 1 ∧ ∀ k, k < 12 → A12 b q k) → l_X5_checkLocal_185 kx 91 x1 (nI q) (nI (flg b q)) (nI (lcl b q)) v 0 M = kx 1 12 M) ∧ (¬ (v = 1 ∧ ∀ k, k < 12 → A12 b q k) → l_X5_checkLocal_185 kx 91 x1 (nI q) (nI (flg b q)) (nI (lcl b q)) v 0 M = kx 0 12 M) := by
  have hfl := n2_lt hb (q + 8)
  have ef : nm b (q + 8) 2 = flg b q := rfl
  rw [ef] at hfl
  have e8 : (nI (flg b q) = (8 : Int32)) ↔ flg b q = 8 := nI_eq (b := 8) (by omega) (by decide)
  have step : ∀ k, k < 12 → (A12 b q k → ∀ kb, g_X5_checkLocal_185 kx kb 91 x1 (nI q) (nI (flg b q)) (nI (lcl b q)) 1 (nI k) M = kb (1, nI (k + 1), M)) ∧ (¬ A12 b q k → ∀ kb, g_X5_checkLocal_185 kx kb 91 x1 (nI q) (nI (flg b q)) (nI (lcl b q)) 1 (nI k) M = kb (0, nI (k + 1), M)) := by
    intro k hk
    have pre : ∀ kb, g_X5_checkLocal_185 kx kb 91 x1 (nI q) (nI (flg b q)) (nI (lcl b q)) 1 (nI k) M = if nI (b (lcl b q + 14 + k)) = (if flg b q = 8 then nI 0 else nI (b (q + 16 + k))) then kb (1, nI (k + 1), M) else kb (0, nI (k + 1), M) := by
      intro kb
      unfold g_X5_checkLocal_185 j_X5_checkLocal_232 j_X5_checkLocal_239 j_X5_checkLocal_240
      rw [if_neg (show ¬ (12 : Int32) ≤ nI k from nI_ge (b := 12) hk (by decide)), if_neg ne10, show (14 : Int32) = nI 14 from rfl, show (16 : Int32) = nI 16 from rfl, nI_add, nI_add, nI_add, nI_add, rf_91_23, chk_n _ (show lcl b q + 14 + k < ln 111 by rw [ln_111]; omega) (by decide), chk_n _ (show q + 16 + k < ln 111 by rw [ln_111]; omega) (by decide), nI_clamp (by omega), nI_clamp (by omega), hy _ (by omega), hy _ (by omega), bndV_s, bndV_s, nI_1]
      by_cases q8 : flg b q = 8
      · rw [if_pos (e8.mpr q8), if_pos q8]
        rfl
      · rw [if_neg (fun z => q8 (e8.mp z)), if_neg q8]
    have hb1 := hb.1 (lcl b q + 14 + k)
    have hb2 := hb.1 (q + 16 + k)
    have hif : (if flg b q = 8 then nI 0 else nI (b (q + 16 + k))) = nI (if flg b q = 8 then 0 else b (q + 16 + k)) := by
      by_cases q8 : flg b q = 8
      · rw [if_pos q8, if_pos q8]
      · rw [if_neg q8, if_neg q8]
    have hlt : (if flg b q = 8 then 0 else b (q + 16 + k)) < 256 := by
      by_cases q8 : flg b q = 8
      · rw [if_pos q8]; omega
      · rw [if_neg q8]; omega
    refine ⟨fun h kb => ?_, fun h kb => ?_⟩
    · rw [pre, hif, if_pos]
      exact congrArg nI h
    · rw [pre, hif, if_neg]
      intro z
      exact h ((nI_eq (by omega) (by omega)).mp z)
  have stay : ∀ k, k < 12 → ∀ kb, g_X5_checkLocal_185 kx kb 91 x1 (nI q) (nI (flg b q)) (nI (lcl b q)) 0 (nI k) M = kb (0, nI (k + 1), M) := by
    intro k hk kb
    unfold g_X5_checkLocal_185 j_X5_checkLocal_239 j_X5_checkLocal_240
    rw [if_neg (show ¬ (12 : Int32) ≤ nI k from nI_ge (b := 12) hk (by decide)), if_pos (show (0 : Int32) = 0 from rfl), bndV_s, nI_1]
  have run := lp_inv (g := fun kb (z : Int32 × Int32 × Me) => g_X5_checkLocal_185 kx kb 91 x1 (nI q) (nI (flg b q)) (nI (lcl b q)) z.1 z.2.1 z.2.2) (fun k st => ∃ w : Int32, st = (w, nI k, M) ∧ ((w = 1 ∧ v = 1 ∧ ∀ j, j < k → A12 b q j) ∨ (w = 0 ∧ ¬ (v = 1 ∧ ∀ j, j < k → A12 b q j)))) (fun R => ∃ w : Int32, R = kx w 12 M ∧ ((w = 1 ∧ v = 1 ∧ ∀ j, j < 12 → A12 b q j) ∨ (w = 0 ∧ ¬ (v = 1 ∧ ∀ j, j < 12 → A12 b q j)))) 12 (fun k st hk hI => ?_) (fun st hI => ?_) FU 0 (v, 0, M) (by omega) (by unfold FU; omega) ⟨v, rfl, ?_⟩
  · unfold l_X5_checkLocal_185
    obtain ⟨R, ⟨w, e1, e2⟩, e3⟩ := run
    rw [e3, e1]
    rcases e2 with ⟨ew, h1⟩ | ⟨ew, h1⟩
    · subst ew
      exact ⟨fun _ => rfl, fun z => absurd h1 z⟩
    · subst ew
      exact ⟨fun z => absurd z h1, fun _ => rfl⟩
  · obtain ⟨w, e, hw⟩ := hI
    subst e
    rcases hw with ⟨ew, h1, h2⟩ | ⟨ew, h1⟩
    · subst ew
      by_cases hA : A12 b q k
      · refine ⟨_, ⟨1, rfl, Or.inl ⟨rfl, h1, fun j hj => ?_⟩⟩, (step k hk).1 hA⟩
        by_cases e : j = k
        · subst e
          exact hA
        · exact h2 j (by omega)
      · exact ⟨_, ⟨0, rfl, Or.inr ⟨rfl, fun z => hA (z.2 k (by omega))⟩⟩, (step k hk).2 hA⟩
    · subst ew
      exact ⟨_, ⟨0, rfl, Or.inr ⟨rfl, fun z => h1 ⟨z.1, fun j hj => z.2 j (by omega)⟩⟩⟩, stay k hk⟩
  · obtain ⟨w, e, hw⟩ := hI
    subst e
    refine ⟨_, ⟨w, rfl, hw⟩, fun kb => ?_⟩
    show g_X5_checkLocal_185 _ kb 91 x1 (nI q) (nI (flg b q)) (nI (lcl b q)) w (nI 12) M = _
    unfold g_X5_checkLocal_185
    rw [if_pos (by decide)]
    rfl
  · rcases hv with e | e
    · exact Or.inr ⟨e, fun z => by rw [e] at z; exact absurd z.1 (by decide)⟩
    · exact Or.inl ⟨e, e, fun j hj => by omega⟩
theorem c_7 {M : Me} {b : Nat → Nat} {q cf : Nat} {x1 : Int32} (hb : Bb b) (hy : BYr M b) (hz : LZ M b q cf) (h27 : M.1 91 27 = 0) (hc : cf ≤ 2000) (hnx : nxt b q ≤ 2000) (h5 : C5 b q) (h6 : C6 b cf q) (hn : rN b q + rE b q ≤ 100) : (C7 b q → j_X5_checkLocal_98 91 x1 (nI q) (nI (flg b q)) (nI (lcl b q)) 1 M = if nI cf < nI (lend b q) then j_X5_checkLocal_317 91 x1 (nI q) (nI (flg b q)) (nI (lcl b q)) (nI (dp b q)) (nI (lend b q)) 0 M else j_X5_checkLocal_317 91 x1 (nI q) (nI (flg b q)) (nI (lcl b q)) (nI (dp b q)) (nI (lend b q)) 1 M) ∧ (¬ C7 b q → j_X5_checkLocal_98 91 x1 (nI q) (nI (flg b q)) (nI (lcl b q)) 1 M = some ((), sI (sI M 91 27 7) 91 28 (nI (lcl b q)))) := by
  obtain ⟨z1, z2, z3, z4, z5, z6⟩ := hz
  have h6a := h6.1
  have hnx2 : nxt b q = q + 46 + rN b q + rE b q := rfl
  have hfl := n2_lt hb (q + 8)
  have ef : nm b (q + 8) 2 = flg b q := rfl
  rw [ef] at hfl
  obtain ⟨e15, hdn⟩ := psz_dn h5
  have e8 : (nI (flg b q) = (8 : Int32)) ↔ flg b q = 8 := nI_eq (b := 8) (by omega) (by decide)
  have hle : lend b q = dp b q + dn b q + (if flg b q = 8 then 16 else 0) := rfl
  have hdp : dp b q = lcl b q + 30 + rN b q + rE b q := rfl
  have e180 : ∀ v : Int32, (v = 0 ∨ v = 1) → ((v = 1 ∧ ∀ k, k < 12 → A12 b q k) → j_X5_checkLocal_180 91 x1 (nI q) (nI (flg b q)) (nI (lcl b q)) v M = if nI cf < nI (lend b q) then j_X5_checkLocal_317 91 x1 (nI q) (nI (flg b q)) (nI (lcl b q)) (nI (dp b q)) (nI (lend b q)) 0 M else j_X5_checkLocal_317 91 x1 (nI q) (nI (flg b q)) (nI (lcl b q)) (nI (dp b q)) (nI (lend b q)) 1 M) ∧ (¬ (v = 1 ∧ ∀ k, k < 12 → A12 b q k) → j_X5_checkLocal_180 91 x1 (nI q) (nI (flg b q)) (nI (lcl b q)) v M = some ((), sI (sI M 91 27 7) 91 28 (nI (lcl b q)))) := by
    intro v hv
    unfold j_X5_checkLocal_180
    refine ⟨fun h => ?_, fun h => ?_⟩
    · rw [(c_185 _ hb hy (by omega) (by omega) v hv).1 h]
      rw [w_t h27, cal_s, if_neg ne10, z2, z3, z5, e15, lN_i, show (30 : Int32) = nI 30 from rfl, nI_add, nI_add, nI_add, bndV_s, nI_add, ← hdp]
      unfold j_X5_checkLocal_300
      by_cases q8 : flg b q = 8
      · rw [if_pos (e8.mpr q8), show (16 : Int32) = nI 16 from rfl, nI_add, bndV_s, z4, show dp b q + dn b q + 16 = lend b q by rw [hle, if_pos q8]]
      · rw [if_neg (fun z => q8 (e8.mp z)), show nI (dp b q + dn b q) + (0 : Int32) = nI (dp b q + dn b q) from Int32.add_zero _, bndV_s, z4, show dp b q + dn b q = lend b q by rw [hle, if_neg q8, Nat.add_zero]]
    · rw [(c_185 _ hb hy (by omega) (by omega) v hv).2 h]
      rw [w_f h27 (by decide), cal_s, if_pos (show (0 : Int32) = 0 from rfl), nI_li (by omega)]
  have eN : j_X5_checkLocal_179 91 x1 (nI q) (nI (flg b q)) (nI (lcl b q)) M = some ((), sI (sI M 91 27 7) 91 28 (nI (lcl b q))) := by
    unfold j_X5_checkLocal_179
    exact (e180 0 (Or.inl rfl)).2 (fun z => absurd z.1 (by decide))
  unfold j_X5_checkLocal_98
  rw [w_t h27, cal_s, if_neg ne10, show (4 : Int32) = nI 4 from rfl, show (6 : Int32) = nI 6 from rfl, show (10 : Int32) = nI 10 from rfl, nI_add, nI_add]
  rcases (Classical.em (∀ k, k < 10 → b (lcl b q + 4 + k) = b (q + 6 + k))).symm with g1 | g1
  · rw [f_alike0 hb hy (by omega) (by omega) g1, cal_s, if_pos (show (0 : Int32) = 0 from rfl)]
    exact ⟨fun z => absurd z.1 g1, fun _ => eN⟩
  rw [f_alike1 hb hy (by omega) (by omega) g1, cal_s, if_neg ne10, show (26 : Int32) = nI 26 from rfl, show (28 : Int32) = nI 28 from rfl, nI_add, nI_add]
  rcases (Classical.em (∀ k, k < 4 → b (lcl b q + 26 + k) = b (q + 28 + k))).symm with g2 | g2
  · rw [f_alike0 hb hy (by omega) (by omega) g2, cal_s, if_pos (show (0 : Int32) = 0 from rfl)]
    exact ⟨fun z => absurd z.2.1 g2, fun _ => eN⟩
  rw [f_alike1 hb hy (by omega) (by omega) g2, cal_s, if_neg ne10, z1, z2, z3, show (30 : Int32) = nI 30 from rfl, nI_add, nI_add]
  rcases (Classical.em (∀ k, k < rN b q + rE b q → b (lcl b q + 30 + k) = b (q + 46 + k))).symm with g3 | g3
  · rw [f_alike0 hb hy (by omega) (by omega) g3, cal_s, if_pos (show (0 : Int32) = 0 from rfl)]
    exact ⟨fun z => absurd z.2.2.1 g3, fun _ => eN⟩
  rw [f_alike1 hb hy (by omega) (by omega) g3, cal_s, if_neg ne10]
  by_cases g4 : ∀ k, k < 12 → A12 b q k
  · exact ⟨fun _ => (e180 1 (Or.inr rfl)).1 ⟨rfl, g4⟩, fun z => absurd ⟨g1, g2, g3, g4⟩ z⟩
  · exact ⟨fun z => absurd z.2.2.2 g4, fun _ => (e180 1 (Or.inr rfl)).2 (fun z => g4 z.2)⟩
