/-! WHAT STANDS BEHIND read -/
theorem ax94 {M : Me} {i k : Nat} (hk : k < 16) : AX M 94 (16 * i + k) = M.1 (20 + 6 * i) k &&& 255 := by
  show M.1 (20 + 6 * ((16 * i + k) / 16)) ((16 * i + k) % 16) &&& 255 = _
  rw [show (16 * i + k) / 16 = i by omega, show (16 * i + k) % 16 = k by omega]
theorem ax105 {M : Me} {i k : Nat} (hk : k < 40) : AX M 105 (40 * i + k) = M.1 (21 + 6 * i) k &&& 255 := by
  show M.1 (21 + 6 * ((40 * i + k) / 40)) ((40 * i + k) % 40) &&& 255 = _
  rw [show (40 * i + k) / 40 = i by omega, show (40 * i + k) % 40 = k by omega]
theorem ax100 {M : Me} {i k : Nat} (hk : k < 3) : AX M 100 (3 * i + k) = M.1 (22 + 6 * i) k := by
  show M.1 (22 + 6 * ((3 * i + k) / 3)) ((3 * i + k) % 3) = _
  rw [show (3 * i + k) / 3 = i by omega, show (3 * i + k) % 3 = k by omega]
theorem ax101 {M : Me} {i k : Nat} (hk : k < 3) : AX M 101 (3 * i + k) = M.1 (23 + 6 * i) k := by
  show M.1 (23 + 6 * ((3 * i + k) / 3)) ((3 * i + k) % 3) = _
  rw [show (3 * i + k) / 3 = i by omega, show (3 * i + k) % 3 = k by omega]
theorem ax102 {M : Me} {i k : Nat} (hk : k < 24) : AX M 102 (24 * i + k) = M.1 (24 + 6 * i) k &&& 255 := by
  show M.1 (24 + 6 * ((24 * i + k) / 24)) ((24 * i + k) % 24) &&& 255 = _
  rw [show (24 * i + k) / 24 = i by omega, show (24 * i + k) % 24 = k by omega]
/-- ZipForms' entry in the reference's layout -/
theorem XE.ev {M M' : Me} {b : Nat → Nat} {q i m : Nat} (hb : Bb b) (h : XE M M' b q i m) : EV (AX M') (AX M) b q i m := by
  obtain ⟨a, b1, b2, b3, b4, b5⟩ := h
  refine ⟨a, fun k hk => ?_, fun k hk => ?_, fun p hp => ?_, fun p hp => ?_, fun p j hp hj => ?_⟩
  · rw [ax94 hk, ax94 hk, b1 k]
    by_cases z : k < rN b q
    · rw [if_pos z, if_pos z]; exact bI_255 _ (hb.1 _)
    · rw [if_neg z, if_neg z]
  · rw [ax105 hk, ax105 hk, b2 k]
    by_cases z : k < dn b q
    · rw [if_pos z, if_pos z]; exact bI_255 _ (hb.1 _)
    · rw [if_neg z, if_neg z]
  · rw [ax100 hp, ax100 hp]; exact b3 p
  · rw [ax101 hp, ax101 hp]; exact b4 p
  · rw [ax102 (show 8 * p + j < 24 by omega), ax102 (show 8 * p + j < 24 by omega), b5 p j hj]
    by_cases z : p < m ∧ j < pn b q p
    · rw [if_pos z, if_pos z]; exact bI_255 _ (hb.1 _)
    · rw [if_neg z, if_neg z]
/-- two sides that took the same entry -/
theorem EV.eq {σ σ' τ τ' : Nat → Nat → Int32} {b : Nat → Nat} {q i m a k : Nat} (h : EV σ' σ b q i m) (h' : EV τ' τ b q i m) (ho : own i a k) (hold : (a = 94 ∨ a = 100 ∨ a = 101 ∨ a = 102 ∨ a = 105) → σ a k = τ a k) (h106 : a = 106 → eK b q = 1) : σ' a k = τ' a k := by
  obtain ⟨⟨a1, a2, a3, a4, a5, a6, a7, a8, a9, a10, a11, a12, a13⟩, b1, b2, b3, b4, b5⟩ := h
  obtain ⟨⟨c1, c2, c3, c4, c5, c6, c7, c8, c9, c10, c11, c12, c13⟩, d1, d2, d3, d4, d5⟩ := h'
  rcases ho with ⟨hs, hk⟩ | ⟨ha, hk1, hk2⟩ | ⟨ha, hk1, hk2⟩ | ⟨ha, hk1, hk2⟩ | ⟨ha, hk1, hk2⟩
  · subst hk
    unfold scl at hs
    rcases (show a = 92 ∨ a = 93 ∨ a = 95 ∨ a = 96 ∨ a = 97 ∨ a = 98 ∨ a = 99 ∨ a = 103 ∨ a = 104 ∨ a = 106 ∨ a = 107 ∨ a = 108 ∨ a = 109 by omega) with e | e | e | e | e | e | e | e | e | e | e | e | e
    · subst e; exact a1.trans c1.symm
    · subst e; exact a2.trans c2.symm
    · subst e; exact a3.trans c3.symm
    · subst e; exact a10.trans c10.symm
    · subst e; exact a11.trans c11.symm
    · subst e; exact a12.trans c12.symm
    · subst e; exact a5.trans c5.symm
    · subst e; exact a6.trans c6.symm
    · subst e; exact a4.trans c4.symm
    · subst e; exact (a8 (h106 rfl)).trans (c8 (h106 rfl)).symm
    · subst e; exact a9.trans c9.symm
    · subst e; exact a7.trans c7.symm
    · subst e; exact a13.trans c13.symm
  · subst ha
    obtain ⟨j, hj⟩ : ∃ j, k = 16 * i + j := ⟨k - 16 * i, by omega⟩
    subst hj
    rw [b1 j (by omega), d1 j (by omega), hold (by omega)]
  · subst ha
    obtain ⟨j, hj⟩ : ∃ j, k = 40 * i + j := ⟨k - 40 * i, by omega⟩
    subst hj
    rw [b2 j (by omega), d2 j (by omega), hold (by omega)]
  · obtain ⟨j, hj⟩ : ∃ j, k = 3 * i + j := ⟨k - 3 * i, by omega⟩
    subst hj
    rcases ha with ha | ha
    · subst ha
      rw [b3 j (by omega), d3 j (by omega), hold (by omega)]
    · subst ha
      rw [b4 j (by omega), d4 j (by omega), hold (by omega)]
  · subst ha
    obtain ⟨p, j, hj, hp, hk⟩ : ∃ p j, j < 8 ∧ p < 3 ∧ k = 24 * i + (8 * p + j) := ⟨(k - 24 * i) / 8, (k - 24 * i) % 8, by omega, by omega, by omega⟩
    subst hk
    rw [b5 p j hp hj, d5 p j hp hj, hold (by omega)]
theorem ite_B {P : Prop} [Decidable P] {x y : Int32} (hx : isB x) (hy : isB y) : isB (if P then x else y) := by
  by_cases h : P
  · rw [if_pos h]; exact hx
  · rw [if_neg h]; exact hy
/-- the rows of bytes hold bytes -/
theorem EV.bt {σ σ' : Nat → Nat → Int32} {b : Nat → Nat} {q i m a k : Nat} (hb : Bb b) (h : EV σ' σ b q i m) (ho : own i a k) (ha : a = 94 ∨ a = 102 ∨ a = 105) (hold : isB (σ a k)) : isB (σ' a k) := by
  obtain ⟨_, b1, b2, b3, b4, b5⟩ := h
  have hB : ∀ x, isB (nI (b x)) := fun x => ⟨_, hb.1 x, rfl⟩
  rcases ho with ⟨hs, hk⟩ | ⟨ha, hk1, hk2⟩ | ⟨ha, hk1, hk2⟩ | ⟨ha, hk1, hk2⟩ | ⟨ha, hk1, hk2⟩
  · unfold scl at hs
    omega
  · subst ha
    obtain ⟨j, hj⟩ : ∃ j, k = 16 * i + j := ⟨k - 16 * i, by omega⟩
    subst hj
    rw [b1 j (by omega)]
    exact ite_B (hB _) hold
  · subst ha
    obtain ⟨j, hj⟩ : ∃ j, k = 40 * i + j := ⟨k - 40 * i, by omega⟩
    subst hj
    rw [b2 j (by omega)]
    exact ite_B (hB _) hold
  · omega
  · subst ha
    obtain ⟨p, j, hj, hp, hk⟩ : ∃ p j, j < 8 ∧ p < 3 ∧ k = 24 * i + (8 * p + j) := ⟨(k - 24 * i) / 8, (k - 24 * i) % 8, by omega, by omega, by omega⟩
    subst hk
    rw [b5 p j hp hj]
    exact ite_B (hB _) hold
theorem EV.ok {σ σ' : Nat → Nat → Int32} {b : Nat → Nat} {q i m cf : Nat} (h : EV σ' σ b q i m) (hp : prt b (pq b q) (nxt b q) m) (hc : cf ≤ 2000) (h4 : C4 b q) (h5 : C5 b q) (h6 : C6 b cf q) : EOK σ' i := by
  obtain ⟨⟨a1, a2, a3, a4, a5, a6, a7, a8, a9, a10, a11, a12, a13⟩, b1, b2, b3, b4, b5⟩ := h
  obtain ⟨_, hdn⟩ := psz_dn h5
  have h6a := h6.1
  have hm3 := hp.1
  refine ⟨rN b q, dn b q, m, h4.1.2.2.1, h4.1.2.2.2, hdn, hp.1, a3, a4, a5, ?_, ?_, ?_, ?_, ?_, ?_, fun p hpm => ?_⟩
  · rw [a1]
    unfold eK
    by_cases g : fo b q = 0
    · rw [if_pos g]
      by_cases g8 : mth b q = 8
      · rw [if_pos g8]; exact Or.inr (Or.inl rfl)
      · rw [if_neg g8]; exact Or.inl rfl
    · rw [if_neg g]; exact Or.inr (Or.inr rfl)
  · rw [a2]
    unfold eG
    by_cases g8 : flg b q = 8
    · rw [if_pos g8]; exact Or.inr (Or.inl rfl)
    · rw [if_neg g8]
      by_cases w0 : wq b q = 0
      · rw [if_pos w0]; exact Or.inl rfl
      · rw [if_neg w0]; exact Or.inr (Or.inr rfl)
  · rw [a6]
    unfold eD
    by_cases g : fo b q = 0
    · rw [if_pos g]; exact Or.inr rfl
    · rw [if_neg g]; exact Or.inl rfl
  · rw [a7]
    unfold eD
    by_cases g : fo b q = 0
    · rw [if_pos g]; exact Or.inr rfl
    · rw [if_neg g]; exact Or.inl rfl
  · rw [a1, a6]
    unfold eK eD
    by_cases g : fo b q = 0
    · rw [if_pos g]
      by_cases g8 : mth b q = 8
      · rw [if_pos g8]; intro z; exact absurd z (by decide)
      · rw [if_neg g8]; intro z; exact absurd z (by decide)
    · rw [if_neg g, if_neg g]
      intro _
      have hf1 : (fo b q).toInt = 1 := by
        rcases fo_01 b q with z | z
        · exact absurd (show fo b q = 0 by rw [eqc, t3_0]; exact z) g
        · exact z
      have := (h5.2.1 hf1).1
      refine ⟨?_, rfl⟩
      unfold dn
      rw [this]
      rfl
  · rw [a13]
    exact Or.inr (nI_le (a := 0) (by omega) (by omega))
  · rw [b4 p (by omega), if_pos hpm]
    exact ⟨pn b q p, (hp.2.2 p hpm).2, rfl⟩
theorem rd_iv {M MX MY : Me} {n z c rows t p cf : Nat} {b : Nat → Nat} (hi : IV M n z c) (hb : Bb b) (hr : rows ≤ 12) (ht : t ≤ 12) (hc : cf ≤ 2000) (hg : ∀ i, i < rows → good b cf i)
    (x04 : MX.1 0 4 = nI rows) (x05 : MX.1 0 5 = nI t) (x07 : MX.1 0 7 = -1) (x06 : MX.1 0 6 = M.1 0 6) (x2 : MX.1 2 1 = M.1 2 1) (x3 : ∀ y, MX.1 3 y = M.1 3 y) (x18 : ∀ k, MX.1 18 k = if k < t then bI (b (p + 22 + k)) else M.1 18 k) (xe : ∀ i, i < rows → ∃ m, prt b (pq b (rs b cf i)) (nxt b (rs b cf i)) m ∧ XE M MX b (rs b cf i) i m) (xo : ∀ x y, 19 + 6 * rows ≤ x → x < 91 → MX.1 x y = M.1 x y)
    (y0 : ∀ x y, x < 91 → MY.1 x y = MX.1 x y) (y2 : MY.1 91 2 = nI rows) (y22 : MY.1 91 22 = nI t) (y26 : MY.1 91 26 = -1) (y24 : MY.1 91 24 = M.1 91 24) (y1 : MY.1 91 1 = M.1 91 1) (y110 : ∀ k, MY.1 110 k = if k < t then nI (b (p + 22 + k)) else M.1 110 k) (y111 : ∀ k, MY.1 111 k = M.1 111 k) (ye : ∀ i, i < rows → ∃ m, prt b (pq b (rs b cf i)) (nxt b (rs b cf i)) m ∧ EV MY.1 M.1 b (rs b cf i) i m) (yo : ∀ a k, 92 ≤ a → a ≤ 109 → (∀ i, i < rows → ¬ own i a k) → MY.1 a k = M.1 a k) : IV MY rows z t := by
  have hn := hi.1.1
  have hbt : ∀ a k, (a = 94 ∨ a = 102 ∨ a = 105) → isB (M.1 a k) → isB (MY.1 a k) := by
    intro a k ha hold
    by_cases h : ∃ i, i < rows ∧ own i a k
    · obtain ⟨i, hir, ho⟩ := h
      obtain ⟨m, _, hE⟩ := ye i hir
      exact hE.bt hb ho ha hold
    · rw [yo a k (by omega) (by omega) (fun i hir ho => h ⟨i, hir, ho⟩)]
      exact hold
  have hxm : ∀ i, i < rows → XB M → ∀ k, k < 16 → MX.1 (20 + 6 * i) k = (MX.1 (20 + 6 * i) k).toInt8.toInt32 := by
    intro i hir hX k hk
    obtain ⟨m, _, hE⟩ := xe i hir
    rw [hE.2.1 k]
    by_cases q : k < rN b (rs b cf i)
    · rw [if_pos q]; exact (bI_byte _).symm
    · rw [if_neg q]; exact hX i k (by omega) hk
  refine ⟨⟨hr, hi.1.2.1, ht, y2, by rw [y24]; exact hi.yz, y22⟩, ⟨fun k hk => hbt 94 k (by omega) (hi.2.1.1 k hk), fun k hk => hbt 102 k (by omega) (hi.2.1.2.1 k hk), fun k hk => hbt 105 k (by omega) (hi.2.1.2.2.1 k hk), fun k hk => ?_, fun k hk => by rw [y111]; exact hi.2.1.2.2.2.2.1 k hk, fun k h1 h2 => by rw [y111]; exact hi.2.1.2.2.2.2.2 k h1 h2⟩, fun i hir => ?_, fun a k hv ho => ?_, fun i k hi12 hk => ?_⟩
  · rw [y110]
    exact ite_B ⟨_, hb.1 _, rfl⟩ (hi.2.1.2.2.2.1 k hk)
  · obtain ⟨m, hp, hE⟩ := ye i hir
    obtain ⟨q4, q5, q6, _⟩ := hg i hir
    exact hE.ok hp hc q4 q5 q6
  · have hlt := loc_lt hv
    have eAX : AX MY a k = AX MX a k := by
      unfold AX
      rw [y0 _ _ hlt]
    rw [eAX]
    rcases hv with ⟨ha, hk⟩ | ⟨h1, h2, hk⟩
    · subst ha
      rcases hk with hk | hk | hk | hk | hk <;> subst hk
      · show MX.1 0 6 = _
        rw [x06, y1]; exact hi.xf
      · show MX.1 0 4 = _
        rw [x04, y2]
      · show MX.1 0 5 = _
        rw [x05, y22]
      · show MX.1 2 1 = _
        rw [x2, y24, hi.xz, hi.yz]
      · show MX.1 0 7 = _
        rw [x07, y26]
    · have hv' : vd a k := Or.inr ⟨h1, h2, hk⟩
      by_cases q111 : a = 111
      · subst q111
        show MX.1 3 k &&& 255 = _
        rw [x3, y111]
        exact hi.xby hk
      by_cases q110 : a = 110
      · subst q110
        show MX.1 18 k &&& 255 = _
        rw [x18, y110]
        by_cases q : k < t
        · rw [if_pos q, if_pos q]; exact bI_255 _ (hb.1 _)
        · rw [if_neg q, if_neg q]; exact hi.xrm hk
      have harr : (a = 94 ∨ a = 100 ∨ a = 101 ∨ a = 102 ∨ a = 105) → AX M a k = M.1 a k := fun h => hi.full (by omega) hk
      by_cases h : ∃ i, i < rows ∧ own i a k
      · obtain ⟨i, hir, hown⟩ := h
        obtain ⟨m, hp, hE⟩ := ye i hir
        obtain ⟨m', hp', hX⟩ := xe i hir
        have em := prt_uniq hp' hp
        subst em
        refine (hX.ev hb).eq hE hown harr (fun h106 => ?_)
        have h92 := ho.2 h106
        have hki : k = i := by
          unfold own scl at hown
          omega
        rw [hki, hE.1.1] at h92
        exact h92
      · have hnk : ∀ i, i < rows → ¬ own i a k := fun i hir ho => h ⟨i, hir, ho⟩
        have hsc : ¬ scl a := by
          intro hs
          have hkr : k < rows := ho.1 (by unfold scl at hs; omega)
          exact hnk k hkr (Or.inl ⟨hs, rfl⟩)
        have ha5 : a = 94 ∨ a = 100 ∨ a = 101 ∨ a = 102 ∨ a = 105 := by
          unfold scl at hsc
          omega
        rw [yo a k h1 (by omega) hnk, ← harr ha5]
        unfold AX
        have hxx : 19 + 6 * rows ≤ (loc a k).1 := by
          have hge : ∀ i, i < rows → ¬ own i a k := hnk
          have hl : k < lnv a := hk
          rcases ha5 with e | e | e | e | e <;> subst e
          · show 19 + 6 * rows ≤ 20 + 6 * (k / 16)
            rcases Nat.lt_or_ge (k / 16) rows with w | w
            · exact absurd (show own (k / 16) 94 k by unfold own; omega) (hge _ w)
            · omega
          · show 19 + 6 * rows ≤ 22 + 6 * (k / 3)
            rcases Nat.lt_or_ge (k / 3) rows with w | w
            · exact absurd (show own (k / 3) 100 k by unfold own; omega) (hge _ w)
            · omega
          · show 19 + 6 * rows ≤ 23 + 6 * (k / 3)
            rcases Nat.lt_or_ge (k / 3) rows with w | w
            · exact absurd (show own (k / 3) 101 k by unfold own; omega) (hge _ w)
            · omega
          · show 19 + 6 * rows ≤ 24 + 6 * (k / 24)
            rcases Nat.lt_or_ge (k / 24) rows with w | w
            · exact absurd (show own (k / 24) 102 k by unfold own; omega) (hge _ w)
            · omega
          · show 19 + 6 * rows ≤ 21 + 6 * (k / 40)
            rcases Nat.lt_or_ge (k / 40) rows with w | w
            · exact absurd (show own (k / 40) 105 k by unfold own; omega) (hge _ w)
            · omega
        rw [xo _ _ hxx hlt]
  · rw [y0 _ _ (by omega)]
    rcases Nat.lt_or_ge i rows with w | w
    · exact hxm i w hi.xb k hk
    · rw [xo _ _ (by omega) (by omega)]
      exact hi.xb i k hi12 hk
