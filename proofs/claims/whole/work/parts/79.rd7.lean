/-! ONE ENTRY's faults in their order -/
def bad (b : Nat → Nat) (cf i κ pl : Nat) : Prop :=
  (¬ C4 b (rs b cf i) ∧ κ = 4 ∧ pl = rs b cf i) ∨ (C4 b (rs b cf i) ∧ ((¬ C5 b (rs b cf i) ∧ κ = 5 ∧ pl = rs b cf i) ∨ (C5 b (rs b cf i) ∧ ((¬ C6 b cf (rs b cf i) ∧ κ = 6 ∧ pl = lcl b (rs b cf i)) ∨ (C6 b cf (rs b cf i) ∧ ((¬ C7 b (rs b cf i) ∧ κ = 7 ∧ pl = lcl b (rs b cf i)) ∨ (C7 b (rs b cf i) ∧ ((¬ C8 b cf (rs b cf i) ∧ κ = 8 ∧ pl = dp b (rs b cf i)) ∨ (C8 b cf (rs b cf i) ∧ ((¬ C9 b cf i ∧ κ = 9 ∧ pl = lcl b (rs b cf i)) ∨ (C9 b cf i ∧ ¬ safe b (rs b cf i + 46) (rN b (rs b cf i)) ∧ κ = 10 ∧ pl = rs b cf i)))))))))))
def good (b : Nat → Nat) (cf i : Nat) : Prop := C4 b (rs b cf i) ∧ C5 b (rs b cf i) ∧ C6 b cf (rs b cf i) ∧ C7 b (rs b cf i) ∧ C8 b cf (rs b cf i) ∧ C9 b cf i ∧ safe b (rs b cf i + 46) (rN b (rs b cf i))
theorem f_fl (M : Me) (κ pl : Int32) : f_X1_fail M 4 κ pl = some (0, sI (sI M 4 7 κ) 4 8 pl) := by
  unfold f_X1_fail
  rw [bnd_s, bnd_s, chZ_0]
theorem ne10 : ¬ (1 : Int32) = 0 := by decide
theorem f_gE {M : Me} {b : Nat → Nat} {cf i : Nat} (hb : Bb b) (hx : BX M b) (hi : i < 12) (hr : RF M b (6 + i) (rs b cf i)) (h5 : M.1 4 5 = nI cf) (hnx : nxt b (rs b cf i) ≤ 2000) (hc : cf ≤ 2000) (h17 : ∀ j, j < i → M.2 (6 + j) 17 = lN (lcl b (rs b cf j))) (h18 : ∀ j, j < i → M.1 (6 + j) 18 = nI (lend b (rs b cf j))) (hg : ∀ j, j < i → good b cf j) : (good b cf i ∧ ∃ M', f_X1_isGoodEntry M 4 (nI i) = some (1, M') ∧ KX M M' (6 + i) ∧ RG M' b (6 + i) (rs b cf i) ∧ M'.1 (6 + i) 18 = nI (lend b (rs b cf i))) ∨ (∃ κ pl, bad b cf i κ pl ∧ ∃ M', f_X1_isGoodEntry M 4 (nI i) = some (0, sI (sI M' 4 7 (nI κ)) 4 8 (nI pl)) ∧ KX M M' (6 + i)) := by
  obtain ⟨q, hq⟩ : ∃ q, q = rs b cf i := ⟨_, rfl⟩
  unfold bad good
  rw [← hq] at hr hnx ⊢
  obtain ⟨k1, k0⟩ := f_kF hb hx (show 6 ≤ 6 + i by omega) hr hnx
  unfold f_X1_isGoodEntry
  rw [show rf 4 1 = 5 from rfl, chk_n _ (show i < ln 5 by rw [ln_5]; omega) (by decide), bndV_s, nI_clamp (by omega), rf_R, show rf 4 0 = 2 from rfl]
  rcases (Classical.em (C4 b q)).symm with h4 | h4
  · obtain ⟨M1, e1, kx1⟩ := k0 h4
    refine Or.inr ⟨4, q, Or.inl ⟨h4, rfl, rfl⟩, M1, ?_, kx1⟩
    rw [e1, cal_s, if_pos (show (0 : Int32) = 0 from rfl), (kx1.rf hr).1, f_fl, cal_s, chZ_0]
    rfl
  obtain ⟨M1, e1, kx1, rg1⟩ := k1 h4
  have rf1 := kx1.rf hr
  have x1 := kx1.bx (show 6 ≤ 6 + i by omega) hx
  have c1 : M1.1 4 5 = nI cf := (kx1.1 4 5 (by omega)).trans h5
  have l1 : M1.2 (6 + i) 17 = lN (lcl b q) := rf1.2.2.2.2.2.2.2.2.2.2.2.2
  rw [e1, cal_s, if_neg ne10]
  rcases (Classical.em (C5 b q)).symm with h5' | h5'
  · refine Or.inr ⟨5, q, Or.inr ⟨h4, Or.inl ⟨h5', rfl, rfl⟩⟩, M1, ?_, kx1⟩
    rw [(f_kS hb rf1 rg1 h4).2 h5', cal_s, if_pos (show (0 : Int32) = 0 from rfl), rf1.1, f_fl, cal_s, chZ_0]
    rfl
  rw [(f_kS hb rf1 rg1 h4).1 h5', cal_s, if_neg ne10]
  rcases (Classical.em (C6 b cf q)).symm with h6 | h6
  · refine Or.inr ⟨6, lcl b q, Or.inr ⟨h4, Or.inr ⟨h5', Or.inl ⟨h6, rfl, rfl⟩⟩⟩, M1, ?_, kx1⟩
    rw [(f_hL hb x1 rf1 c1 hc).2 h6, cal_s, if_pos (show (0 : Int32) = 0 from rfl), l1, lN_i, f_fl, cal_s, chZ_0]
    rfl
  rw [(f_hL hb x1 rf1 c1 hc).1 h6, cal_s, if_neg ne10]
  rcases (Classical.em (C7 b q)).symm with h7 | h7
  · refine Or.inr ⟨7, lcl b q, Or.inr ⟨h4, Or.inr ⟨h5', Or.inr ⟨h6, Or.inl ⟨h7, rfl, rfl⟩⟩⟩⟩, M1, ?_, kx1⟩
    rw [(f_lT hb x1 rf1 rg1.2.1 hnx hc h4 h5' h6).2 h7, cal_s, if_pos (show (0 : Int32) = 0 from rfl), l1, lN_i, f_fl, cal_s, chZ_0]
    rfl
  rw [(f_lT hb x1 rf1 rg1.2.1 hnx hc h4 h5' h6).1 h7, cal_s, if_neg ne10]
  obtain ⟨d1, d0⟩ := f_dT hb x1 (show 6 ≤ 6 + i by omega) rf1 rg1.2.1 rg1.2.2.1 c1 hnx hc h4 h5' h6
  obtain ⟨M2, hM2⟩ : ∃ M2, M2 = sI M1 (6 + i) 18 (nI (lend b q)) := ⟨_, rfl⟩
  rw [← hM2] at d1 d0
  have kx2 : KX M M2 (6 + i) := by rw [hM2]; exact kx_sI kx1 (by omega)
  have rf2 := kx2.rf hr
  have x2 := kx2.bx (show 6 ≤ 6 + i by omega) hx
  have a18 : M2.1 (6 + i) 18 = nI (lend b q) := by rw [hM2, sI_eq]
  have l2 : M2.2 (6 + i) 17 = lN (lcl b q) := rf2.2.2.2.2.2.2.2.2.2.2.2.2
  have rg2 : RG M2 b (6 + i) q := by
    obtain ⟨r1, r2, r3, r4, m, r5, r6⟩ := rg1
    rw [hM2]
    exact ⟨by rw [sI_ne (by omega)]; exact r1, by rw [sI_ne (by omega)]; exact r2, r3, r4, m, r5, by rw [sI_ne (by omega)]; exact r6⟩
  rcases (Classical.em (C8 b cf q)).symm with h8 | h8
  · refine Or.inr ⟨8, dp b q, Or.inr ⟨h4, Or.inr ⟨h5', Or.inr ⟨h6, Or.inr ⟨h7, Or.inl ⟨h8, rfl, rfl⟩⟩⟩⟩⟩, M2, ?_, kx2⟩
    rw [d0 h8, cal_s, if_pos (show (0 : Int32) = 0 from rfl), f_dP rf2, cal_s, f_fl, cal_s, chZ_0]
    rfl
  rw [d1 h8, cal_s, if_neg ne10]
  have hlg : ∀ j, j < i → lcl b (rs b cf j) < 2 ^ 31 ∧ lend b (rs b cf j) < 2 ^ 31 := by
    intro j hj
    have g1 := (hg j hj).2.2.1.1
    have g2 := (hg j hj).2.2.2.2.1.1
    omega
  have h6a := h6.1
  have h8a := h8.1
  have v17 : ∀ j, j ≤ i → M2.2 (6 + j) 17 = lN (lcl b (rs b cf j)) := by
    intro j hj
    by_cases e : j = i
    · subst e
      rw [← hq]
      exact l2
    · rw [kx2.2 (6 + j) 17 (by omega)]
      exact h17 j (by omega)
  have v18 : ∀ j, j ≤ i → M2.1 (6 + j) 18 = nI (lend b (rs b cf j)) := by
    intro j hj
    by_cases e : j = i
    · subst e
      rw [← hq]
      exact a18
    · rw [kx2.1 (6 + j) 18 (by omega)]
      exact h18 j (by omega)
  have vl : ∀ j, j ≤ i → lcl b (rs b cf j) < 2 ^ 31 := by
    intro j hj
    by_cases e : j = i
    · subst e
      rw [← hq]
      omega
    · exact (hlg j (by omega)).1
  have ve : ∀ j, j ≤ i → lend b (rs b cf j) < 2 ^ 31 := by
    intro j hj
    by_cases e : j = i
    · subst e
      rw [← hq]
      omega
    · exact (hlg j (by omega)).2
  obtain ⟨s1, s0⟩ := f_sh (M := M2) (b := b) (cf := cf) hi v17 v18 vl ve
  rcases (Classical.em (C9 b cf i)).symm with h9 | h9
  · refine Or.inr ⟨9, lcl b q, Or.inr ⟨h4, Or.inr ⟨h5', Or.inr ⟨h6, Or.inr ⟨h7, Or.inr ⟨h8, Or.inl ⟨h9, rfl, rfl⟩⟩⟩⟩⟩⟩, M2, ?_, kx2⟩
    rw [s0 h9, cal_s, if_neg ne10, l2, lN_i, f_fl, cal_s, chZ_0]
    rfl
  rw [s1 h9, cal_s, if_pos (show (0 : Int32) = 0 from rfl)]
  have hn16 := h4.1.2.2.2
  have hnx2 : nxt b q = q + 46 + rN b q + rE b q := rfl
  rcases (Classical.em (safe b (q + 46) (rN b q))).symm with h10 | h10
  · refine Or.inr ⟨10, q, Or.inr ⟨h4, Or.inr ⟨h5', Or.inr ⟨h6, Or.inr ⟨h7, Or.inr ⟨h8, Or.inr ⟨h9, h10, rfl, rfl⟩⟩⟩⟩⟩⟩, M2, ?_, kx2⟩
    rw [(f_sf hb x2 rf2 (by omega) hn16).2 h10, cal_s, if_pos (show (0 : Int32) = 0 from rfl), rf2.1, f_fl, cal_s, if_pos (show (0 : Int32) = 0 from rfl), chZ_0]
    rfl
  · refine Or.inl ⟨⟨h4, h5', h6, h7, h8, h9, h10⟩, M2, ?_, kx2, rg2, a18⟩
    rw [(f_sf hb x2 rf2 (by omega) hn16).1 h10, cal_s, if_neg ne10, chZ_1]
/-! THE WHOLE -/
def eP (z t : Nat) : Nat := z - 22 - t
def eC (b : Nat → Nat) (z t : Nat) : Nat := nm b (eP z t + 16) 4
def eZ (b : Nat → Nat) (z t : Nat) : Nat := nm b (eP z t + 16) 4 + nm b (eP z t + 12) 4
def eR (b : Nat → Nat) (z t : Nat) : Nat := nm b (eP z t + 8) 2
/-- the end row is found with t bytes of comment -/
def eF (b : Nat → Nat) (z t : Nat) : Prop := eE b z t ∧ ∀ s, s < t → ¬ eE b z s
def rwK (b : Nat → Nat) (z t : Nat) : Prop := (∀ j, j < eR b z t → rOK b (eZ b z t) (rs b (eC b z t) j)) ∧ rs b (eC b z t) (eR b z t) = eZ b z t
/-- the first fault -/
def flt (b : Nat → Nat) (z κ pl : Nat) : Prop := ((∀ s, ¬ eE b z s) ∧ κ = 1 ∧ pl = z) ∨ ∃ t, eF b z t ∧ ((¬ eOK b (eP z t) ∧ κ = 2 ∧ pl = eP z t) ∨ (eOK b (eP z t) ∧ ((fRw b (eC b z t) (eZ b z t) (eR b z t) pl ∧ κ = 3) ∨ (rwK b z t ∧ ∃ i, i < eR b z t ∧ (∀ j, j < i → good b (eC b z t) j) ∧ bad b (eC b z t) i κ pl))))
def whl (b : Nat → Nat) (z t : Nat) : Prop := eF b z t ∧ eOK b (eP z t) ∧ rwK b z t ∧ ∀ j, j < eR b z t → good b (eC b z t) j
theorem rw_or (b : Nat → Nat) (cf ce rows : Nat) : ((∀ j, j < rows → rOK b ce (rs b cf j)) ∧ rs b cf rows = ce) ∨ ∃ q, fRw b cf ce rows q := by
  by_cases h : ∀ j, j < rows → rOK b ce (rs b cf j)
  · by_cases h2 : rs b cf rows = ce
    · exact Or.inl ⟨h, h2⟩
    · exact Or.inr ⟨_, Or.inr ⟨h, h2, rfl⟩⟩
  · have hex : ∃ r, r < rows ∧ ¬ rOK b ce (rs b cf r) := by
      apply Classical.byContradiction
      intro hno
      exact h (fun j hj => Classical.byContradiction (fun z => hno ⟨j, hj, z⟩))
    obtain ⟨r, ⟨h1, h2⟩, h3⟩ := pk_least _ hex
    exact Or.inr ⟨_, Or.inl ⟨r, h1, fun j hj => Classical.byContradiction (fun z => h3 j hj ⟨by omega, z⟩), h2, rfl⟩⟩
theorem rs_nx {b : Nat → Nat} {z t : Nat} (hz : z ≤ 2000) (h2 : eOK b (eP z t)) (h3 : rwK b z t) {i : Nat} (hi : i < eR b z t) : nxt b (rs b (eC b z t) i) ≤ 2000 := by
  have h4 := (h3.1 i hi).2.2.2
  have h5 : eZ b z t ≤ eP z t := h2.1
  have h6 : eP z t = z - 22 - t := rfl
  omega
/-- what holds after i entries were found good -/
def WI (M M' : Me) (b : Nat → Nat) (cf rows i : Nat) : Prop := (∀ x y, (x < 6 ∨ 17 < x) → M'.1 x y = M.1 x y) ∧ (∀ j, j < rows → RF M' b (6 + j) (rs b cf j)) ∧ ∀ j, j < i → RG M' b (6 + j) (rs b cf j) ∧ M'.1 (6 + j) 18 = nI (lend b (rs b cf j))
theorem WI.step {M M' M2 : Me} {b : Nat → Nat} {cf rows i : Nat} (h : WI M M' b cf rows i) (hi : i < rows) (hr : rows ≤ 12) (hk : KX M' M2 (6 + i)) (hg : RG M2 b (6 + i) (rs b cf i)) (h18 : M2.1 (6 + i) 18 = nI (lend b (rs b cf i))) : WI M M2 b cf rows (i + 1) := by
  refine ⟨fun x y hx => (hk.1 x y (by omega)).trans (h.1 x y hx), fun j hj => ?_, fun j hj => ?_⟩
  · by_cases e : j = i
    · subst e
      exact hk.rf (h.2.1 j hj)
    · exact (h.2.1 j hj).same (fun y _ => hk.1 _ _ (by omega)) (fun y _ => hk.2 _ _ (by omega))
  · by_cases e : j = i
    · subst e
      exact ⟨hg, h18⟩
    · obtain ⟨⟨r1, r2, r3, r4, m, r5, r6⟩, r7⟩ := h.2.2 j (by omega)
      exact ⟨⟨(hk.1 _ _ (by omega)).trans r1, (hk.1 _ _ (by omega)).trans r2, (hk.2 _ _ (by omega)).trans r3, (hk.2 _ _ (by omega)).trans r4, m, r5, (hk.1 _ _ (by omega)).trans r6⟩, (hk.1 _ _ (by omega)).trans r7⟩
def gW (kb : Int32 × Me → Option (Int32 × Me)) (z : Int32 × Me) : Option (Int32 × Me) := g_X1_isWhole_25 (fun v10 M11 => chZ (1 : Int32) (some ((1 : Int32), M11))) kb 4 z.1 z.2
theorem f_iWl {M : Me} {b : Nat → Nat} {cf rows : Nat} (hb : Bb b) (hx : BX M b) (hr : rows ≤ 12) (h2 : M.1 4 2 = nI rows) (h5 : M.1 4 5 = nI cf) (hc : cf ≤ 2000) (hnx : ∀ i, i < rows → nxt b (rs b cf i) ≤ 2000) : ∀ fuel i M', rows - i < fuel → i ≤ rows → WI M M' b cf rows i → (∀ j, j < i → good b cf j) → (((∀ j, j < rows → good b cf j) ∧ ∃ M2, lp gW fuel (nI i, M') = some (1, M2) ∧ WI M M2 b cf rows rows) ∨ (∃ κ pl e, e < rows ∧ (∀ j, j < e → good b cf j) ∧ bad b cf e κ pl ∧ ∃ M2, lp gW fuel (nI i, M') = some (0, sI (sI M2 4 7 (nI κ)) 4 8 (nI pl)) ∧ ∀ x y, (x < 6 ∨ 17 < x) → M2.1 x y = M.1 x y)) := by
  intro fuel
  induction fuel with
  | zero => intro i M' h; omega
  | succ f ih =>
    intro i M' hf hi hW hgd
    have e0 : lp gW (f + 1) (nI i, M') = g_X1_isWhole_25 (fun v10 M11 => chZ (1 : Int32) (some ((1 : Int32), M11))) (lp gW f) 4 (nI i) M' := rfl
    rw [e0]
    rcases Nat.lt_or_ge i rows with h | h
    · have hc12 : ¬ (12 : Int32) ≤ nI i := nI_ge (b := 12) (by omega) (by decide)
      rcases f_gE (M := M') hb (hx.same (fun y => hW.1 3 y (by omega))) (show i < 12 by omega) (hW.2.1 i h) ((hW.1 4 5 (by omega)).trans h5) (hnx i h) hc (fun j hj => (hW.2.1 j (by omega)).2.2.2.2.2.2.2.2.2.2.2.2) (fun j hj => (hW.2.2 j hj).2) hgd with ⟨hg, M2, e, kx, rg, h18⟩ | ⟨κ, pl, hbad, M2, e, kx⟩
      · have st : g_X1_isWhole_25 (fun v10 M11 => chZ (1 : Int32) (some ((1 : Int32), M11))) (lp gW f) 4 (nI i) M' = lp gW f (nI (i + 1), M2) := by
          unfold g_X1_isWhole_25
          rw [hW.1 4 2 (by omega), h2, if_neg (nI_ge h (by omega)), if_neg hc12, e, cal_s, if_neg ne10, bndV_s, nI_1]
        rw [st]
        refine ih (i + 1) M2 (by omega) (by omega) (hW.step h hr kx rg h18) (fun j hj => ?_)
        by_cases q : j = i
        · subst q
          exact hg
        · exact hgd j (by omega)
      · refine Or.inr ⟨κ, pl, i, h, hgd, hbad, M2, ?_, fun x y hxy => (kx.1 x y (by omega)).trans (hW.1 x y hxy)⟩
        unfold g_X1_isWhole_25
        rw [hW.1 4 2 (by omega), h2, if_neg (nI_ge h (by omega)), if_neg hc12, e, cal_s, if_pos (show (0 : Int32) = 0 from rfl), chZ_0]
    · have e1 : i = rows := by omega
      subst e1
      refine Or.inl ⟨hgd, M', ?_, hW⟩
      unfold g_X1_isWhole_25
      rw [hW.1 4 2 (by omega), h2, if_pos (nI_le (Nat.le_refl i) (by omega))]
      exact chZ_1 _
theorem eE_or (b : Nat → Nat) (z : Nat) : (∃ t, eF b z t) ∨ ∀ s, ¬ eE b z s := by
  by_cases h : ∃ t, eE b z t
  · obtain ⟨t, h1, h2⟩ := pk_least _ h
    exact Or.inl ⟨t, h1, h2⟩
  · exact Or.inr (fun s q => h ⟨s, q⟩)
theorem f_iW {M : Me} {b : Nat → Nat} {z : Nat} (hb : Bb b) (hx : BX M b) (hz : M.1 2 1 = nI z) (hz2 : z ≤ 2000) : (∃ t, whl b z t ∧ ∃ M', f_X1_isWhole M 4 = some (1, M') ∧ (∀ x y, (x < 4 ∨ x = 5 ∨ 17 < x) → M'.1 x y = M.1 x y) ∧ M'.1 4 2 = nI (eR b z t) ∧ M'.1 4 3 = nI (eP z t) ∧ M'.1 4 4 = nI t ∧ ∀ j, j < eR b z t → RF M' b (6 + j) (rs b (eC b z t) j) ∧ RG M' b (6 + j) (rs b (eC b z t) j)) ∨ (∃ κ pl, flt b z κ pl ∧ ∃ M', f_X1_isWhole M 4 = some (0, sI (sI M' 4 7 (nI κ)) 4 8 (nI pl)) ∧ ∀ x y, (x < 4 ∨ 17 < x) → M'.1 x y = M.1 x y) := by
  unfold f_X1_isWhole
  rcases eE_or b z with ⟨t, ht⟩ | hno
  · rw [f_fE1 hb hx hz hz2 ht.1 ht.2, cal_s, if_neg ne10]
    have ht12 := ht.1.1
    obtain ⟨p, hp⟩ : ∃ p, p = eP z t := ⟨_, rfl⟩
    have hp0 : z - 22 - t = p := hp.symm
    have hpz : p ≤ 2000 := by omega
    obtain ⟨A, hA⟩ : ∃ A, A = sI (sI M 4 3 (nI (z - 22 - t))) 4 4 (nI t) := ⟨_, rfl⟩
    rw [← hA]
    have xA : BX A b := by rw [hA]; exact (hx.up (by omega)).up (by omega)
    have a3 : A.1 4 3 = nI p := by rw [hA, sI_ne (by omega), sI_eq, hp0]
    have a4 : A.1 4 4 = nI t := by rw [hA, sI_eq]
    have fA : ∀ x y, x ≠ 4 → A.1 x y = M.1 x y := fun x y h => by rw [hA, sI_ne (by omega), sI_ne (by omega)]
    obtain ⟨t1, t0⟩ := f_tE hb xA a3 hpz
    rcases (Classical.em (eOK b p)).symm with hk | hk
    · refine Or.inr ⟨2, p, Or.inr ⟨t, ht, Or.inl ⟨by rw [← hp]; exact hk, rfl, hp⟩⟩, A, ?_, fun x y h => fA x y (by omega)⟩
      rw [t0 hk, cal_s, if_pos (show (0 : Int32) = 0 from rfl), chZ_0]
      rfl
    rw [t1 hk, cal_s, if_neg ne10]
    have eR' : nm b (p + 8) 2 = eR b z t := by rw [hp]; rfl
    have eC' : nm b (p + 16) 4 = eC b z t := by rw [hp]; rfl
    have eZ' : nm b (p + 16) 4 + nm b (p + 12) 4 = eZ b z t := by rw [hp]; rfl
    have hk1 := hk.1
    have hk2 := hk.2.1
    obtain ⟨B, hB⟩ : ∃ B, B = sI (sI (sI A 4 2 (nI (nm b (p + 8) 2))) 4 5 (nI (nm b (p + 16) 4))) 4 6 (nI (nm b (p + 16) 4 + nm b (p + 12) 4)) := ⟨_, rfl⟩
    rw [← hB]
    rw [eZ'] at hk1
    rw [eR'] at hk2
    have hcz : eC b z t ≤ eZ b z t := by rw [← eC', ← eZ']; omega
    have xB : BX B b := by rw [hB]; exact ((xA.up (by omega)).up (by omega)).up (by omega)
    have b2 : B.1 4 2 = nI (eR b z t) := by rw [hB, sI_ne (by omega), sI_ne (by omega), sI_eq, eR']
    have b5 : B.1 4 5 = nI (eC b z t) := by rw [hB, sI_ne (by omega), sI_eq, eC']
    have b6 : B.1 4 6 = nI (eZ b z t) := by rw [hB, sI_eq, eZ']
    have b3 : B.1 4 3 = nI p := by rw [hB, sI_ne (by omega), sI_ne (by omega), sI_ne (by omega)]; exact a3
    have b4 : B.1 4 4 = nI t := by rw [hB, sI_ne (by omega), sI_ne (by omega), sI_ne (by omega)]; exact a4
    have fB : ∀ x y, x ≠ 4 → B.1 x y = M.1 x y := fun x y h => by rw [hB, sI_ne (by omega), sI_ne (by omega), sI_ne (by omega)]; exact fA x y h
    obtain ⟨r1, r0⟩ := f_tRs hb xB b2 b5 b6 hk2 (by omega) hcz
    rw [hp] at hk
    rcases rw_or b (eC b z t) (eZ b z t) (eR b z t) with hw | ⟨q, hw⟩
    · obtain ⟨C, e1, hT⟩ := r1 hw
      rw [e1, cal_s, if_neg ne10]
      have xC : BX C b := xB.same (fun y => hT.1 3 y (by omega))
      rcases f_iWl hb xC hk2 ((hT.1 4 2 (by omega)).trans b2) ((hT.1 4 5 (by omega)).trans b5) (by omega) (fun i hi => rs_nx hz2 hk hw hi) FU 0 C (by unfold FU; omega) (by omega) ⟨fun _ _ _ => rfl, hT.2, fun j hj => by omega⟩ (fun j hj => by omega) with ⟨hg, M2, e2, hW⟩ | ⟨κ, pl, e, he, hgd, hbad, M2, e2, hfr⟩
      · refine Or.inl ⟨t, ⟨ht, hk, hw, hg⟩, M2, e2, fun x y h => ?_, ?_, ?_, ?_, fun j hj => ⟨hW.2.1 j hj, (hW.2.2 j hj).1⟩⟩
        · rw [hW.1 x y (by omega), hT.1 x y (by omega)]
          exact fB x y (by omega)
        · rw [hW.1 4 2 (by omega), hT.1 4 2 (by omega)]; exact b2
        · rw [hW.1 4 3 (by omega), hT.1 4 3 (by omega), ← hp]; exact b3
        · rw [hW.1 4 4 (by omega), hT.1 4 4 (by omega)]; exact b4
      · refine Or.inr ⟨κ, pl, Or.inr ⟨t, ht, Or.inr ⟨hk, Or.inr ⟨hw, e, he, hgd, hbad⟩⟩⟩, M2, e2, fun x y h => ?_⟩
        rw [hfr x y (by omega), hT.1 x y (by omega)]
        exact fB x y (by omega)
    · obtain ⟨C, e1, hfr⟩ := r0 q hw
      refine Or.inr ⟨3, q, Or.inr ⟨t, ht, Or.inr ⟨hk, Or.inl ⟨hw, rfl⟩⟩⟩, C, ?_, fun x y h => ?_⟩
      · rw [e1, cal_s, if_pos (show (0 : Int32) = 0 from rfl), chZ_0]
        rfl
      · rw [hfr x y (by omega)]
        exact fB x y (by omega)
  · refine Or.inr ⟨1, z, Or.inl ⟨hno, rfl, rfl⟩, M, ?_, fun _ _ _ => rfl⟩
    rw [f_fE0 hb hx hz hz2 hno, cal_s, if_pos (show (0 : Int32) = 0 from rfl), chZ_0]
    rfl
