/-! ALL ENTRIES TAKEN -/
theorem XE.tr {M M' N N' : Me} {b : Nat → Nat} {q i m : Nat} (h : XE M M' b q i m) (h1 : ∀ x y, 19 + 6 * i ≤ x → x ≤ 24 + 6 * i → N.1 x y = M.1 x y) (h2 : ∀ x y, 19 + 6 * i ≤ x → x ≤ 24 + 6 * i → N'.1 x y = M'.1 x y) : XE N N' b q i m := by
  obtain ⟨⟨a1, a2, a3, a4, a5, a6, a7, a8, a9, a10, a11, a12, a13⟩, b1, b2, b3, b4, b5⟩ := h
  have s : ∀ y, N'.1 (19 + 6 * i) y = M'.1 (19 + 6 * i) y := fun y => h2 _ y (by omega) (by omega)
  refine ⟨⟨(s _).trans a1, (s _).trans a2, (s _).trans a3, (s _).trans a4, (s _).trans a5, (s _).trans a6, (s _).trans a7, fun z => (s _).trans (a8 z), (s _).trans a9, (s _).trans a10, (s _).trans a11, (s _).trans a12, (s _).trans a13⟩, fun k => ?_, fun k => ?_, fun p => ?_, fun p => ?_, fun p j hj => ?_⟩
  · rw [h1 _ _ (by omega) (by omega), h2 _ _ (by omega) (by omega)]; exact b1 k
  · rw [h1 _ _ (by omega) (by omega), h2 _ _ (by omega) (by omega)]; exact b2 k
  · rw [h1 _ _ (by omega) (by omega), h2 _ _ (by omega) (by omega)]; exact b3 p
  · rw [h1 _ _ (by omega) (by omega), h2 _ _ (by omega) (by omega)]; exact b4 p
  · rw [h1 _ _ (by omega) (by omega), h2 _ _ (by omega) (by omega)]; exact b5 p j hj
theorem EV.tr {σ σ' τ τ' : Nat → Nat → Int32} {b : Nat → Nat} {q i m : Nat} (h : EV σ' σ b q i m) (h1 : ∀ a k, own i a k → τ a k = σ a k) (h2 : ∀ a k, own i a k → τ' a k = σ' a k) : EV τ' τ b q i m := by
  obtain ⟨⟨a1, a2, a3, a4, a5, a6, a7, a8, a9, a10, a11, a12, a13⟩, b1, b2, b3, b4, b5⟩ := h
  have s : ∀ a, scl a → τ' a i = σ' a i := fun a ha => h2 _ _ (Or.inl ⟨ha, rfl⟩)
  refine ⟨⟨(s 92 (by unfold scl; omega)).trans a1, (s 93 (by unfold scl; omega)).trans a2, (s 95 (by unfold scl; omega)).trans a3, (s 104 (by unfold scl; omega)).trans a4, (s 99 (by unfold scl; omega)).trans a5, (s 103 (by unfold scl; omega)).trans a6, (s 108 (by unfold scl; omega)).trans a7, fun z => (s 106 (by unfold scl; omega)).trans (a8 z), (s 107 (by unfold scl; omega)).trans a9, (s 96 (by unfold scl; omega)).trans a10, (s 97 (by unfold scl; omega)).trans a11, (s 98 (by unfold scl; omega)).trans a12, (s 109 (by unfold scl; omega)).trans a13⟩, fun k hk => ?_, fun k hk => ?_, fun p hp => ?_, fun p hp => ?_, fun p j hp hj => ?_⟩
  · rw [h1 _ _ (by unfold own; omega), h2 _ _ (by unfold own; omega)]; exact b1 k hk
  · rw [h1 _ _ (by unfold own; omega), h2 _ _ (by unfold own; omega)]; exact b2 k hk
  · rw [h1 _ _ (by unfold own; omega), h2 _ _ (by unfold own; omega)]; exact b3 p hp
  · rw [h1 _ _ (by unfold own; omega), h2 _ _ (by unfold own; omega)]; exact b4 p hp
  · rw [h1 _ _ (by unfold own; omega), h2 _ _ (by unfold own; omega)]; exact b5 p j hp hj
theorem own_1 {i j a k : Nat} (h : own i a k) (h' : own j a k) : i = j := by
  unfold own scl at h h'
  omega
theorem RF.lo {M M' : Me} {b : Nat → Nat} {a q : Nat} (h : RF M b a q) (h1 : ∀ y, M'.1 a y = M.1 a y) (h2 : M'.2 = M.2) : RF M' b a q := h.same (fun y _ => h1 y) (fun y _ => by rw [h2])
theorem RG.lo {M M' : Me} {b : Nat → Nat} {a q : Nat} (h : RG M b a q) (h1 : ∀ y, M'.1 a y = M.1 a y) (h2 : M'.2 = M.2) : RG M' b a q := by
  obtain ⟨r1, r2, r3, r4, m, r5, r6⟩ := h
  exact ⟨(h1 _).trans r1, (h1 _).trans r2, by rw [h2]; exact r3, by rw [h2]; exact r4, m, r5, (h1 _).trans r6⟩
/-- ZipForms' loop over the entries -/
theorem l_rX {N : Me} {b : Nat → Nat} {cf rows : Nat} (kx : Int32 → Me → Option (Int32 × Me)) (hb : Bb b) (hx : BX N b) (hr : rows ≤ 12) (h4 : N.1 0 4 = nI rows) (hc : cf ≤ 2000) (hnx : ∀ i, i < rows → nxt b (rs b cf i) ≤ 2000) (hrf : ∀ i, i < rows → RF N b (6 + i) (rs b cf i)) (hrg : ∀ i, i < rows → RG N b (6 + i) (rs b cf i)) (hg : ∀ i, i < rows → good b cf i) : ∃ M', l_X4_read_50 kx 0 0 N = kx (nI rows) M' ∧ (∀ i, i < rows → ∃ m, prt b (pq b (rs b cf i)) (nxt b (rs b cf i)) m ∧ XE N M' b (rs b cf i) i m) ∧ (∀ x y, ¬ (19 ≤ x ∧ x < 19 + 6 * rows) → M'.1 x y = N.1 x y) := by
  have := lp_inv (g := fun kb (z : Int32 × Me) => g_X4_read_50 kx kb 0 z.1 z.2) (fun j s => ∃ M', s = (nI j, M') ∧ (∀ i, i < j → ∃ m, prt b (pq b (rs b cf i)) (nxt b (rs b cf i)) m ∧ XE N M' b (rs b cf i) i m) ∧ (∀ x y, ¬ (19 ≤ x ∧ x < 19 + 6 * j) → M'.1 x y = N.1 x y) ∧ M'.2 = N.2) (fun R => ∃ M', R = kx (nI rows) M' ∧ (∀ i, i < rows → ∃ m, prt b (pq b (rs b cf i)) (nxt b (rs b cf i)) m ∧ XE N M' b (rs b cf i) i m) ∧ (∀ x y, ¬ (19 ≤ x ∧ x < 19 + 6 * rows) → M'.1 x y = N.1 x y)) rows (fun j s hj hI => ?_) (fun s hI => ?_) FU 0 (0, N) (by omega) (by unfold FU; omega) ⟨N, rfl, fun i hi => by omega, fun _ _ _ => rfl, rfl⟩
  · obtain ⟨R, ⟨M', e1, e2, e3⟩, e4⟩ := this
    exact ⟨M', e4.trans e1, e2, e3⟩
  · obtain ⟨M', e, hE, hF, h2⟩ := hI
    subst e
    obtain ⟨q4, q5, q6, _⟩ := hg j hj
    obtain ⟨_, m, hp⟩ := q4
    obtain ⟨M2, f1, f2, f3, f4⟩ := f_tk (M := M') (i := j) hb (hx.same (fun y => hF 3 y (by omega))) (by omega) ((hrf j hj).lo (fun y => hF _ y (by omega)) h2) ((hrg j hj).lo (fun y => hF _ y (by omega)) h2) hp (hnx j hj) hc (hg j hj).1 q5 q6
    refine ⟨(nI (j + 1), M2), ⟨M2, rfl, fun i hi => ?_, fun x y h => ?_, f3.trans h2⟩, fun kb => ?_⟩
    · by_cases e : i = j
      · subst e
        exact ⟨m, hp, f2.tr (fun x y h1 h2 => (hF x y (by omega)).symm) (fun _ _ _ _ => rfl)⟩
      · obtain ⟨m', p', hX⟩ := hE i (by omega)
        exact ⟨m', p', hX.tr (fun _ _ _ _ => rfl) (fun x y h1 h2 => f4 x y (by omega))⟩
    · rw [f4 x y (by omega)]
      exact hF x y (by omega)
    · show g_X4_read_50 kx kb 0 (nI j) M' = _
      unfold g_X4_read_50
      rw [hF 0 4 (by omega), h4, if_neg (nI_ge hj (by omega)), if_neg (show ¬ (12 : Int32) ≤ nI j from nI_ge (b := 12) (by omega) (by decide)), rf_0_0, rf_0_2, rf_4_1, rf_0_1, chk_n _ (show j < ln 1 by rw [ln_1]; omega) (by decide), chk_n _ (show j < ln 5 by rw [ln_5]; omega) (by decide), nI_clamp (by omega), rf_E, rf_R, f1, cal_s, bndV_s, nI_1]
  · obtain ⟨M', e, hE, hF, h2⟩ := hI
    subst e
    refine ⟨_, ⟨M', rfl, hE, hF⟩, fun kb => ?_⟩
    show g_X4_read_50 kx kb 0 (nI rows) M' = _
    unfold g_X4_read_50
    rw [hF 0 4 (by omega), h4, if_pos (nI_le (Nat.le_refl rows) (by omega))]
/-- the reference's loop over the entries -/
theorem l_rY {N : Me} {b : Nat → Nat} {cf rows : Nat} (kx : Int32 → Me → Option (Int32 × Me)) (hb : Bb b) (hy : BYr N b) (hr : rows ≤ 12) (h30 : N.1 91 30 = nI rows) (h112 : ∀ i, i < rows → N.1 112 i = nI (rs b cf i)) (hc : cf ≤ 2000) (hnx : ∀ i, i < rows → nxt b (rs b cf i) ≤ 2000) (hg : ∀ i, i < rows → good b cf i) : ∃ M', l_X5_read_91 kx 91 0 N = kx (nI rows) M' ∧ (∀ i, i < rows → ∃ m, prt b (pq b (rs b cf i)) (nxt b (rs b cf i)) m ∧ EV M'.1 N.1 b (rs b cf i) i m) ∧ (∀ x y, ¬ (x = 91 ∧ 34 ≤ y ∧ y ≤ 38) → (∀ i, i < rows → ¬ own i x y) → M'.1 x y = N.1 x y) := by
  have nown : ∀ i y x, x < 92 ∨ 109 < x → ¬ own i x y := fun i y x h => by unfold own scl; omega
  have := lp_inv (g := fun kb (z : Int32 × Me) => g_X5_read_91 kx kb 91 z.1 z.2) (fun j s => ∃ M', s = (nI j, M') ∧ (∀ i, i < j → ∃ m, prt b (pq b (rs b cf i)) (nxt b (rs b cf i)) m ∧ EV M'.1 N.1 b (rs b cf i) i m) ∧ (∀ x y, ¬ (x = 91 ∧ 34 ≤ y ∧ y ≤ 38) → (∀ i, i < j → ¬ own i x y) → M'.1 x y = N.1 x y)) (fun R => ∃ M', R = kx (nI rows) M' ∧ (∀ i, i < rows → ∃ m, prt b (pq b (rs b cf i)) (nxt b (rs b cf i)) m ∧ EV M'.1 N.1 b (rs b cf i) i m) ∧ (∀ x y, ¬ (x = 91 ∧ 34 ≤ y ∧ y ≤ 38) → (∀ i, i < rows → ¬ own i x y) → M'.1 x y = N.1 x y)) rows (fun j s hj hI => ?_) (fun s hI => ?_) FU 0 (0, N) (by omega) (by unfold FU; omega) ⟨N, rfl, fun i hi => by omega, fun _ _ _ _ => rfl⟩
  · obtain ⟨R, ⟨M', e1, e2, e3⟩, e4⟩ := this
    exact ⟨M', e4.trans e1, e2, e3⟩
  · obtain ⟨M', e, hE, hF⟩ := hI
    subst e
    obtain ⟨q4, q5, q6, _, q8, _⟩ := hg j hj
    obtain ⟨_, m, hp⟩ := q4
    obtain ⟨M2, f1, f2, f3⟩ := f_tkY (M := M') (i := j) hb (hy.same (fun y => hF 111 y (by omega) (fun i _ => nown i y 111 (by omega)))) (by omega) ((hF 112 j (by omega) (fun i _ => nown i j 112 (by omega))).trans (h112 j hj)) hp (hnx j hj) hc (hg j hj).1 q5 q6 q8
    refine ⟨(nI (j + 1), M2), ⟨M2, rfl, fun i hi => ?_, fun x y h1 h2 => ?_⟩, fun kb => ?_⟩
    · by_cases e : i = j
      · subst e
        refine ⟨m, hp, f2.tr (fun a k ho => (hF a k (by unfold own scl at ho; omega) (fun i' hi' ho' => ?_)).symm) (fun _ _ _ => rfl)⟩
        have := own_1 ho ho'
        omega
      · obtain ⟨m', p', hX⟩ := hE i (by omega)
        refine ⟨m', p', hX.tr (fun _ _ _ => rfl) (fun a k ho => f3 a k (by unfold own scl at ho; omega) (fun ho' => ?_))⟩
        exact e (own_1 ho ho')
    · rw [f3 x y h1 (h2 j (by omega))]
      exact hF x y h1 (fun i hi => h2 i (by omega))
    · show g_X5_read_91 kx kb 91 (nI j) M' = _
      unfold g_X5_read_91
      rw [hF 91 30 (by omega) (fun i _ => nown i 30 91 (by omega)), h30, if_neg (nI_ge hj (by omega)), f1, cal_s, bndV_s, nI_1]
  · obtain ⟨M', e, hE, hF⟩ := hI
    subst e
    refine ⟨_, ⟨M', rfl, hE, hF⟩, fun kb => ?_⟩
    show g_X5_read_91 kx kb 91 (nI rows) M' = _
    unfold g_X5_read_91
    rw [hF 91 30 (by omega) (fun i _ => nown i 30 91 (by omega)), h30, if_pos (nI_le (Nat.le_refl rows) (by omega))]
/-- the reference's loop over the checks -/
theorem l_rC {N : Me} {b : Nat → Nat} {cf rows : Nat} (kx : Int32 → Me → Option (Int32 × Me)) (hb : Bb b) (hy : BYr N b) (hr : rows ≤ 12) (h27 : N.1 91 27 = 0) (h30 : N.1 91 30 = nI rows) (h31 : N.1 91 31 = nI cf) (h112 : ∀ i, i < rows → N.1 112 i = nI (rs b cf i)) (hc : cf ≤ 2000) (hnx : ∀ i, i < rows → nxt b (rs b cf i) ≤ 2000) : ((∀ i, i < rows → good b cf i) → ∃ v M', l_X5_read_27 kx 91 0 N = kx v M' ∧ M'.1 91 27 = 0 ∧ (∀ x y, ¬ (x = 91 ∧ (y = 27 ∨ y = 28 ∨ (34 ≤ y ∧ y ≤ 38))) → x ≠ 113 → x ≠ 114 → M'.1 x y = N.1 x y)) ∧ (∀ e κ pl, e < rows → (∀ j, j < e → good b cf j) → bad b cf e κ pl → ∃ v M', l_X5_read_27 kx 91 0 N = kx v M' ∧ M'.1 91 27 = nI κ ∧ M'.1 91 28 = nI pl ∧ (∀ x y, ¬ (x = 91 ∧ (y = 27 ∨ y = 28 ∨ (34 ≤ y ∧ y ≤ 38))) → x ≠ 113 → x ≠ 114 → M'.1 x y = N.1 x y)) := by
  have step : ∀ j (M' : Me), j < rows → (∀ i, i < j → good b cf i) → M'.1 91 27 = 0 → (∀ x y, ¬ (x = 91 ∧ (y = 27 ∨ y = 28 ∨ (34 ≤ y ∧ y ≤ 38))) → x ≠ 113 → x ≠ 114 → M'.1 x y = N.1 x y) → (∀ i, i < j → M'.1 113 i = nI (lcl b (rs b cf i))) → (∀ i, i < j → M'.1 114 i = nI (lend b (rs b cf i))) → ∀ M2, f_X5_checkRow M' 91 (nI j) = some ((), M2) → ∀ kb, g_X5_read_27 kx kb 91 (nI j) M' = kb (nI (j + 1), M2) := by
    intro j M' hj _ e27 hF _ _ M2 e kb
    unfold g_X5_read_27
    rw [hF 91 30 (by omega) (by omega) (by omega), h30, if_neg (nI_ge hj (by omega)), if_pos e27, e, cal_s, bndV_s, nI_1]
  have sp := fun j (M' : Me) (hj : j < rows) (hg : ∀ i, i < j → good b cf i) (e27 : M'.1 91 27 = 0) (hF : ∀ x y, ¬ (x = 91 ∧ (y = 27 ∨ y = 28 ∨ (34 ≤ y ∧ y ≤ 38))) → x ≠ 113 → x ≠ 114 → M'.1 x y = N.1 x y) (h113 : ∀ i, i < j → M'.1 113 i = nI (lcl b (rs b cf i))) (h114 : ∀ i, i < j → M'.1 114 i = nI (lend b (rs b cf i))) => f_cR (M := M') (i := j) hb (hy.same (fun y => hF 111 y (by omega) (by omega) (by omega))) (by omega) ((hF 112 j (by omega) (by omega) (by omega)).trans (h112 j hj)) e27 ((hF 91 31 (by omega) (by omega) (by omega)).trans h31) hc (hnx j hj) hg h113 h114
  have stepI : ∀ e, e ≤ rows → (∀ i, i < e → good b cf i) → ∀ j (s : Int32 × Me), j < e → (∃ M', s = (nI j, M') ∧ M'.1 91 27 = 0 ∧ (∀ x y, ¬ (x = 91 ∧ (y = 27 ∨ y = 28 ∨ (34 ≤ y ∧ y ≤ 38))) → x ≠ 113 → x ≠ 114 → M'.1 x y = N.1 x y) ∧ (∀ i, i < j → M'.1 113 i = nI (lcl b (rs b cf i))) ∧ (∀ i, i < j → M'.1 114 i = nI (lend b (rs b cf i)))) → ∃ s', (∃ M', s' = (nI (j + 1), M') ∧ M'.1 91 27 = 0 ∧ (∀ x y, ¬ (x = 91 ∧ (y = 27 ∨ y = 28 ∨ (34 ≤ y ∧ y ≤ 38))) → x ≠ 113 → x ≠ 114 → M'.1 x y = N.1 x y) ∧ (∀ i, i < j + 1 → M'.1 113 i = nI (lcl b (rs b cf i))) ∧ (∀ i, i < j + 1 → M'.1 114 i = nI (lend b (rs b cf i)))) ∧ ∀ kb, g_X5_read_27 kx kb 91 s.1 s.2 = kb s' := by
    intro e he hg j s hj hI
    obtain ⟨M', es, e27, hF, h113, h114⟩ := hI
    subst es
    have hg' : ∀ i, i < j → good b cf i := fun i hi => hg i (by omega)
    obtain ⟨M2, m1, m2, m3, m4, m5⟩ := (sp j M' (by omega) hg' e27 hF h113 h114).1 (hg j hj)
    refine ⟨(nI (j + 1), M2), ⟨M2, rfl, m3, fun x y h1 h2 h3 => ?_, fun i hi => ?_, fun i hi => ?_⟩, fun kb => step j M' (by omega) hg' e27 hF h113 h114 M2 m1 kb⟩
    · rw [m2 x y h1 (by omega)]
      exact hF x y h1 h2 h3
    · by_cases q : i = j
      · subst q
        exact m4
      · rw [m2 113 i (by omega) (by omega)]
        exact h113 i (by omega)
    · by_cases q : i = j
      · subst q
        exact m5
      · rw [m2 114 i (by omega) (by omega)]
        exact h114 i (by omega)
  have I0 : ∃ M', ((0, N) : Int32 × Me) = (nI 0, M') ∧ M'.1 91 27 = 0 ∧ (∀ x y, ¬ (x = 91 ∧ (y = 27 ∨ y = 28 ∨ (34 ≤ y ∧ y ≤ 38))) → x ≠ 113 → x ≠ 114 → M'.1 x y = N.1 x y) ∧ (∀ i, i < 0 → M'.1 113 i = nI (lcl b (rs b cf i))) ∧ (∀ i, i < 0 → M'.1 114 i = nI (lend b (rs b cf i))) := ⟨N, rfl, h27, fun _ _ _ _ _ => rfl, fun i hi => by omega, fun i hi => by omega⟩
  unfold l_X5_read_27
  refine ⟨fun hg => ?_, fun e κ pl he hg hbad => ?_⟩
  · have := lp_inv (g := fun kb (z : Int32 × Me) => g_X5_read_27 kx kb 91 z.1 z.2) (fun j s => ∃ M', s = (nI j, M') ∧ M'.1 91 27 = 0 ∧ (∀ x y, ¬ (x = 91 ∧ (y = 27 ∨ y = 28 ∨ (34 ≤ y ∧ y ≤ 38))) → x ≠ 113 → x ≠ 114 → M'.1 x y = N.1 x y) ∧ (∀ i, i < j → M'.1 113 i = nI (lcl b (rs b cf i))) ∧ (∀ i, i < j → M'.1 114 i = nI (lend b (rs b cf i)))) (fun R => ∃ v M', R = kx v M' ∧ M'.1 91 27 = 0 ∧ (∀ x y, ¬ (x = 91 ∧ (y = 27 ∨ y = 28 ∨ (34 ≤ y ∧ y ≤ 38))) → x ≠ 113 → x ≠ 114 → M'.1 x y = N.1 x y)) rows (fun j s hj hI => stepI rows (Nat.le_refl _) hg j s hj hI) (fun s hI => ?_) FU 0 (0, N) (by omega) (by unfold FU; omega) I0
    · obtain ⟨R, ⟨v, M', e1, e2⟩, e3⟩ := this
      exact ⟨v, M', e3.trans e1, e2⟩
    · obtain ⟨M', es, e27, hF, _, _⟩ := hI
      subst es
      refine ⟨_, ⟨nI rows, M', rfl, e27, hF⟩, fun kb => ?_⟩
      show g_X5_read_27 kx kb 91 (nI rows) M' = _
      unfold g_X5_read_27
      rw [hF 91 30 (by omega) (by omega) (by omega), h30, if_pos (nI_le (Nat.le_refl rows) (by omega))]
  · have hκ : 4 ≤ κ ∧ κ ≤ 10 := by
      unfold bad at hbad
      omega
    have := lp_inv (g := fun kb (z : Int32 × Me) => g_X5_read_27 kx kb 91 z.1 z.2) (fun j s => (j ≤ e → ∃ M', s = (nI j, M') ∧ M'.1 91 27 = 0 ∧ (∀ x y, ¬ (x = 91 ∧ (y = 27 ∨ y = 28 ∨ (34 ≤ y ∧ y ≤ 38))) → x ≠ 113 → x ≠ 114 → M'.1 x y = N.1 x y) ∧ (∀ i, i < j → M'.1 113 i = nI (lcl b (rs b cf i))) ∧ (∀ i, i < j → M'.1 114 i = nI (lend b (rs b cf i)))) ∧ (j = e + 1 → ∃ v M', s = (v, M') ∧ M'.1 91 27 = nI κ ∧ M'.1 91 28 = nI pl ∧ (∀ x y, ¬ (x = 91 ∧ (y = 27 ∨ y = 28 ∨ (34 ≤ y ∧ y ≤ 38))) → x ≠ 113 → x ≠ 114 → M'.1 x y = N.1 x y))) (fun R => ∃ v M', R = kx v M' ∧ M'.1 91 27 = nI κ ∧ M'.1 91 28 = nI pl ∧ (∀ x y, ¬ (x = 91 ∧ (y = 27 ∨ y = 28 ∨ (34 ≤ y ∧ y ≤ 38))) → x ≠ 113 → x ≠ 114 → M'.1 x y = N.1 x y)) (e + 1) (fun j s hj hI => ?_) (fun s hI => ?_) FU 0 (0, N) (by omega) (by unfold FU; omega) ⟨fun _ => I0, fun h => by omega⟩
    · obtain ⟨R, ⟨v, M', e1, e2⟩, e3⟩ := this
      exact ⟨v, M', e3.trans e1, e2⟩
    · by_cases hlt : j < e
      · obtain ⟨s', h1, h2⟩ := stepI e (by omega) hg j s hlt (hI.1 (by omega))
        exact ⟨s', ⟨fun _ => h1, fun h => by omega⟩, h2⟩
      · have q : j = e := by omega
        subst q
        obtain ⟨M', es, e27, hF, h113, h114⟩ := hI.1 (by omega)
        subst es
        obtain ⟨M2, m1, m2, m3, m4⟩ := (sp j M' he hg e27 hF h113 h114).2 κ pl hbad
        refine ⟨(nI (j + 1), M2), ⟨fun h => by omega, fun _ => ⟨_, M2, rfl, m3, m4, fun x y h1 h2 h3 => ?_⟩⟩, fun kb => step j M' he hg e27 hF h113 h114 M2 m1 kb⟩
        rw [m2 x y h1 (by omega)]
        exact hF x y h1 h2 h3
    · obtain ⟨v, M', es, e27, e28, hF⟩ := hI.2 rfl
      subst es
      have h27' : ¬ M'.1 91 27 = 0 := by
        rw [e27]
        intro z
        have := (nI_eq (b := 0) (by omega) (by decide)).mp z
        omega
      refine ⟨_, ⟨v, M', rfl, e27, e28, hF⟩, fun kb => ?_⟩
      show g_X5_read_27 kx kb 91 v M' = _
      unfold g_X5_read_27
      rw [if_neg h27']
      by_cases z : M'.1 91 30 ≤ v
      · rw [if_pos z]
      · rw [if_neg z]
