theorem f_tR {M : Me} {b : Nat → Nat} {a q ce : Nat} (hb : Bb b) (hx : BX M b) (ha : 6 ≤ a) (hc : M.1 4 6 = nI ce) (hce : ce ≤ 2000) (hq : q ≤ ce) : (rOK b ce q → f_X1_takeRow M 4 a (nI q) = some (1, tF M a b q)) ∧ (¬ rOK b ce q → ∃ M', f_X1_takeRow M 4 a (nI q) = some (0, M') ∧ (M' = M ∨ M' = tF M a b q)) := by
  have h4 := n4_lt hb q
  have hn := n2_lt hb (q + 28)
  have he := n2_lt hb (q + 30)
  have hrn : nm b (q + 28) 2 = rN b q := rfl
  have hre : nm b (q + 30) 2 = rE b q := rfl
  rw [hrn] at hn
  rw [hre] at he
  have e1 : (lg_cmp (lN (nm b q 4)) (33639248 : Int64) = 0) = (nm b q 4 = 33639248) := lN_lgE (c := 33639248) (by omega) (by decide)
  unfold f_X1_takeRow
  rw [hc, show rf 4 0 = 2 from rfl, show (46 : Int32) = nI 46 from rfl, nI_add]
  rcases Nat.lt_or_ge ce (q + 46) with g1 | g1
  · rw [if_pos (nI_lt g1 (by omega)), chZ_0]
    exact ⟨fun z => by have := z.1; omega, fun _ => ⟨M, rfl, Or.inl rfl⟩⟩
  rw [if_neg (nI_nlt g1 (by omega)), f_n4 hb hx (by omega), cal_s]
  by_cases g2 : nm b q 4 = 33639248
  · rw [if_pos (by rw [e1]; exact g2), f_tF hb hx (by omega) (by omega), cal_s]
    obtain ⟨T, hT⟩ : ∃ T, T = tF M a b q := ⟨_, rfl⟩
    have hxT : BX T b := by rw [hT]; exact hx.same (fun y => tF_ne (by omega))
    have hcT : T.1 4 6 = nI ce := by rw [hT, tF_ne (by omega)]; exact hc
    have hRT : RF T b a q := by rw [hT]; exact tF_rf
    rw [← hT, show (32 : Int32) = nI 32 from rfl, nI_add, f_n2 hb hxT (by omega), cal_s]
    have h32 := n2_lt hb (q + 32)
    by_cases g3 : nm b (q + 32) 2 = 0
    · unfold f_X2_endPlace
      rw [if_pos (by rw [g3]; rfl), cal_s, hcT, hRT.1, hRT.2.2.2.2.2.2.1, hRT.2.2.2.2.2.2.2.1, show (46 : Int32) = nI 46 from rfl, nI_add, nI_add, nI_add, chZ_0, chZ_1]
      have hnx : nxt b q = q + 46 + rN b q + rE b q := rfl
      rcases Nat.lt_or_ge ce (q + 46 + rN b q + rE b q) with g4 | g4
      · rw [if_pos (nI_lt g4 (by omega))]
        exact ⟨fun z => by have := z.2.2.2; omega, fun _ => ⟨T, rfl, Or.inr rfl⟩⟩
      · rw [if_neg (nI_nlt g4 (by omega))]
        exact ⟨fun _ => rfl, fun z => absurd ⟨g1, g2, g3, by omega⟩ z⟩
    · rw [if_neg (show ¬ nI (nm b (q + 32) 2) = (0 : Int32) from fun z => g3 ((nI_eq (b := 0) (by omega) (by decide)).mp z)), chZ_0]
      exact ⟨fun z => absurd z.2.2.1 g3, fun _ => ⟨T, rfl, Or.inr rfl⟩⟩
  · rw [if_neg (by rw [e1]; exact g2), chZ_0]
    exact ⟨fun z => absurd z.2.1 g2, fun _ => ⟨M, rfl, Or.inl rfl⟩⟩
/-- what holds after r rows -/
def TR (M M' : Me) (b : Nat → Nat) (cf r : Nat) : Prop := (∀ x y, (x < 6 ∨ 17 < x) → M'.1 x y = M.1 x y) ∧ ∀ j, j < r → RF M' b (6 + j) (rs b cf j)
theorem TR.tF {M M' : Me} {b : Nat → Nat} {cf r : Nat} (h : TR M M' b cf r) (hr : r < 12) : TR M (tF M' (6 + r) b (rs b cf r)) b cf (r + 1) := by
  refine ⟨fun x y hx => by rw [tF_ne (by omega)]; exact h.1 x y hx, fun j hj => ?_⟩
  by_cases q : j = r
  · subst q
    exact tF_rf
  · exact (h.2 j (by omega)).same (fun y _ => tF_ne (by omega)) (fun y _ => tF_ne2 (by omega))
def fRw (b : Nat → Nat) (cf ce rows q : Nat) : Prop := (∃ r, r < rows ∧ (∀ j, j < r → rOK b ce (rs b cf j)) ∧ ¬ rOK b ce (rs b cf r) ∧ q = rs b cf r) ∨ ((∀ j, j < rows → rOK b ce (rs b cf j)) ∧ rs b cf rows ≠ ce ∧ q = rs b cf rows)
theorem rs_le {b : Nat → Nat} {cf ce : Nat} (h0 : cf ≤ ce) : ∀ r, (∀ j, j < r → rOK b ce (rs b cf j)) → rs b cf r ≤ ce
  | 0, _ => h0
  | r + 1, h => (h r (by omega)).2.2.2
theorem f_tRs {M : Me} {b : Nat → Nat} {cf ce rows : Nat} (hb : Bb b) (hx : BX M b) (h2 : M.1 4 2 = nI rows) (h5 : M.1 4 5 = nI cf) (h6 : M.1 4 6 = nI ce) (hr : rows ≤ 12) (hce : ce ≤ 2000) (hcf : cf ≤ ce) : (((∀ j, j < rows → rOK b ce (rs b cf j)) ∧ rs b cf rows = ce) → ∃ M', f_X1_takeRows M 4 = some (1, M') ∧ TR M M' b cf rows) ∧ (∀ q, fRw b cf ce rows q → ∃ M', f_X1_takeRows M 4 = some (0, sI (sI M' 4 7 3) 4 8 (nI q)) ∧ ∀ x y, (x < 6 ∨ 17 < x) → M'.1 x y = M.1 x y) := by
  have step : ∀ (kx : Int32 → Int32 → Me → Option (Int32 × Me)) (r : Nat) (M1 : Me), r < rows → TR M M1 b cf r → (∀ j, j < r → rOK b ce (rs b cf j)) → (rOK b ce (rs b cf r) → ∀ kb, g_X1_takeRows_7 kx kb 4 (nI (rs b cf r)) (nI r) M1 = kb (nI (rs b cf (r + 1)), nI (r + 1), tF M1 (6 + r) b (rs b cf r))) ∧ (¬ rOK b ce (rs b cf r) → ∃ M', (∀ x y, (x < 6 ∨ 17 < x) → M'.1 x y = M.1 x y) ∧ ∀ kb, g_X1_takeRows_7 kx kb 4 (nI (rs b cf r)) (nI r) M1 = some (0, sI (sI M' 4 7 3) 4 8 (nI (rs b cf r)))) := by
    intro kx r M1 hrr hT hok
    have hq := rs_le hcf r hok
    have f1 := f_tR (a := 6 + r) (q := rs b cf r) hb (hx.same (fun y => hT.1 3 y (by omega))) (by omega) (show M1.1 4 6 = nI ce by rw [hT.1 4 6 (by omega)]; exact h6) hce hq
    have pre : ∀ kb, g_X1_takeRows_7 kx kb 4 (nI (rs b cf r)) (nI r) M1 = cal (f_X1_takeRow M1 4 (6 + r) (nI (rs b cf r))) (fun r3 M4 => if r3 = (0 : Int32) then cal (f_X1_fail M4 4 (3 : Int32) (nI (rs b cf r))) (fun r9 M10 => chZ r9 (some (r9, M10))) else cal (f_X2_endPlace M4 (6 + r)) (fun r6 M7 => bndV (nI r + (1 : Int32)) (fun v8 => kb (r6, v8, M7)))) := by
      intro kb
      unfold g_X1_takeRows_7
      rw [hT.1 4 2 (by omega), h2, if_neg (nI_ge hrr (by omega)), if_neg (show ¬ (12 : Int32) ≤ nI r from nI_ge (b := 12) (by omega) (by decide)), show rf 4 1 = 5 from rfl, chk_n _ (show r < ln 5 by rw [ln_5]; omega) (by decide), nI_clamp (by omega), rf_R]
      have hck : ∀ {γ : Type} (A : Option γ), chk (nI r) (ln 5) A = A := fun A => chk_n A (by rw [ln_5]; omega) (by decide)
      simp only [hck]
    refine ⟨fun g kb => ?_, fun g => ?_⟩
    · rw [pre, f1.1 g, cal_s, if_neg (by decide)]
      unfold f_X2_endPlace
      have hRT : RF (tF M1 (6 + r) b (rs b cf r)) b (6 + r) (rs b cf r) := tF_rf
      rw [cal_s, hRT.1, hRT.2.2.2.2.2.2.1, hRT.2.2.2.2.2.2.2.1, show (46 : Int32) = nI 46 from rfl, nI_add, nI_add, nI_add, bndV_s, nI_1]
      rfl
    · obtain ⟨M', e1, e2⟩ := f1.2 g
      refine ⟨M', fun x y hxy => ?_, fun kb => ?_⟩
      · rcases e2 with e2 | e2
        · rw [e2]; exact hT.1 x y hxy
        · rw [e2, tF_ne (by omega)]; exact hT.1 x y hxy
      · rw [pre, e1, cal_s, if_pos rfl]
        unfold f_X1_fail
        rw [bnd_s, bnd_s, chZ_0, cal_s, chZ_0]
  have fin : ∀ M1 : Me, TR M M1 b cf rows → j_X1_takeRows_58 4 (nI (rs b cf rows)) M1 = if nI (rs b cf rows) = nI ce then some (1, M1) else some (0, sI (sI M1 4 7 3) 4 8 (nI (rs b cf rows))) := by
    intro M1 hT
    unfold j_X1_takeRows_58 f_X1_fail
    rw [hT.1 4 6 (by omega), h6, bnd_s, bnd_s, chZ_0, cal_s, if_pos rfl, chZ_0, chZ_1]
  have T0 : TR M M b cf 0 := ⟨fun _ _ _ => rfl, fun j hj => by omega⟩
  unfold f_X1_takeRows l_X1_takeRows_7
  rw [h5, bndV_s]
  refine ⟨fun hg => ?_, fun q hf => ?_⟩
  · have := lp_inv (g := fun kb (z : Int32 × Int32 × Me) => g_X1_takeRows_7 (fun v11 v12 M13 => j_X1_takeRows_58 4 v11 M13) kb 4 z.1 z.2.1 z.2.2) (fun r s => ∃ M1, s = (nI (rs b cf r), nI r, M1) ∧ TR M M1 b cf r) (fun R => ∃ M', R = some (1, M') ∧ TR M M' b cf rows) rows (fun r s hrr hI => ?_) (fun s hI => ?_) FU 0 (nI cf, 0, M) (by omega) (by unfold FU; omega) ⟨M, rfl, T0⟩
    · obtain ⟨R, ⟨M', e1, e2⟩, e3⟩ := this
      exact ⟨M', e3.trans e1, e2⟩
    · obtain ⟨M1, e, hT⟩ := hI
      subst e
      exact ⟨_, ⟨_, rfl, hT.tF (by omega)⟩, (step _ r M1 hrr hT (fun j hj => hg.1 j (by omega))).1 (hg.1 r hrr)⟩
    · obtain ⟨M1, e, hT⟩ := hI
      subst e
      refine ⟨_, ⟨M1, rfl, hT⟩, fun kb => ?_⟩
      show g_X1_takeRows_7 _ kb 4 (nI (rs b cf rows)) (nI rows) M1 = _
      unfold g_X1_takeRows_7
      rw [hT.1 4 2 (by omega), h2, if_pos (nI_le (Nat.le_refl rows) (by omega))]
      exact (fin M1 hT).trans (if_pos (by rw [hg.2]))
  · rcases hf with ⟨r0, hr0, hok, hbad, hq⟩ | ⟨hok, hne, hq⟩
    · have := lp_inv (g := fun kb (z : Int32 × Int32 × Me) => g_X1_takeRows_7 (fun v11 v12 M13 => j_X1_takeRows_58 4 v11 M13) kb 4 z.1 z.2.1 z.2.2) (fun r s => ∃ M1, s = (nI (rs b cf r), nI r, M1) ∧ TR M M1 b cf r) (fun R => ∃ M', R = some (0, sI (sI M' 4 7 3) 4 8 (nI q)) ∧ ∀ x y, (x < 6 ∨ 17 < x) → M'.1 x y = M.1 x y) r0 (fun r s hrr hI => ?_) (fun s hI => ?_) FU 0 (nI cf, 0, M) (by omega) (by unfold FU; omega) ⟨M, rfl, T0⟩
      · obtain ⟨R, ⟨M', e1, e2⟩, e3⟩ := this
        exact ⟨M', e3.trans e1, e2⟩
      · obtain ⟨M1, e, hT⟩ := hI
        subst e
        exact ⟨_, ⟨_, rfl, hT.tF (by omega)⟩, (step _ r M1 (by omega) hT (fun j hj => hok j (by omega))).1 (hok r hrr)⟩
      · obtain ⟨M1, e, hT⟩ := hI
        subst e
        obtain ⟨M', e1, e2⟩ := (step (fun v11 v12 M13 => j_X1_takeRows_58 4 v11 M13) r0 M1 hr0 hT hok).2 hbad
        exact ⟨_, ⟨M', by rw [hq], e1⟩, e2⟩
    · have hle := rs_le hcf rows hok
      have := lp_inv (g := fun kb (z : Int32 × Int32 × Me) => g_X1_takeRows_7 (fun v11 v12 M13 => j_X1_takeRows_58 4 v11 M13) kb 4 z.1 z.2.1 z.2.2) (fun r s => ∃ M1, s = (nI (rs b cf r), nI r, M1) ∧ TR M M1 b cf r) (fun R => ∃ M', R = some (0, sI (sI M' 4 7 3) 4 8 (nI q)) ∧ ∀ x y, (x < 6 ∨ 17 < x) → M'.1 x y = M.1 x y) rows (fun r s hrr hI => ?_) (fun s hI => ?_) FU 0 (nI cf, 0, M) (by omega) (by unfold FU; omega) ⟨M, rfl, T0⟩
      · obtain ⟨R, ⟨M', e1, e2⟩, e3⟩ := this
        exact ⟨M', e3.trans e1, e2⟩
      · obtain ⟨M1, e, hT⟩ := hI
        subst e
        exact ⟨_, ⟨_, rfl, hT.tF (by omega)⟩, (step _ r M1 hrr hT (fun j hj => hok j (by omega))).1 (hok r hrr)⟩
      · obtain ⟨M1, e, hT⟩ := hI
        subst e
        refine ⟨_, ⟨M1, by rw [hq], hT.1⟩, fun kb => ?_⟩
        show g_X1_takeRows_7 _ kb 4 (nI (rs b cf rows)) (nI rows) M1 = _
        unfold g_X1_takeRows_7
        rw [hT.1 4 2 (by omega), h2, if_pos (nI_le (Nat.le_refl rows) (by omega))]
        exact (fin M1 hT).trans (if_neg (fun z => hne ((nI_eq (by omega) (by omega)).mp z)))
