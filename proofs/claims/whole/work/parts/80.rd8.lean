/-! THE REFERENCE: what it may change while it looks -/
def SY (M M' : Me) : Prop := ∀ x y, ¬ (x = 91 ∧ 27 ≤ y) → x < 112 → M'.1 x y = M.1 x y
theorem SY.refl {M : Me} : SY M M := fun _ _ _ _ => rfl
theorem SY.trans {M M' M'' : Me} (h : SY M M') (h' : SY M' M'') : SY M M'' := fun x y h1 h2 => (h' x y h1 h2).trans (h x y h1 h2)
theorem SY.up {M M' : Me} {x y : Nat} {v : Int32} (h : SY M M') (hx : (x = 91 ∧ 27 ≤ y) ∨ 112 ≤ x) : SY M (sI M' x y v) := fun x y h1 h2 => by rw [sI_ne (by omega)]; exact h x y h1 h2
theorem SY.upL {M M' : Me} {x y : Nat} {v : Int64} (h : SY M M') : SY M (sL M' x y v) := h
theorem SY.by {M M' : Me} {b : Nat → Nat} (h : SY M M') (hy : BYr M b) : BYr M' b := hy.same (fun y => h 111 y (by omega) (by omega))
theorem w_t {M : Me} {κ : Int32} {y : Int64} (h : M.1 91 27 = 0) : f_X5_want M 91 1 κ y = some (1, M) := by
  unfold f_X5_want j_X5_want_22
  rw [if_neg ne10, if_pos h, chZ_1]
theorem w_f {M : Me} {κ : Int32} {y : Int64} (h : M.1 91 27 = 0) (hκ : ¬ κ = 0) : f_X5_want M 91 0 κ y = some (0, sI (sI M 91 27 κ) 91 28 y.toInt32) := by
  unfold f_X5_want j_X5_want_22
  rw [if_pos (show (0 : Int32) = 0 from rfl), if_pos h, bnd_s, bnd_s, if_neg (by rw [sI_ne (by omega), sI_eq]; exact hκ), chZ_0]
theorem w_s {M : Me} {s κ : Int32} {y : Int64} (h : ¬ M.1 91 27 = 0) : f_X5_want M 91 s κ y = some (0, M) := by
  unfold f_X5_want j_X5_want_22
  by_cases q : s = 0
  · rw [if_pos q, if_neg h, if_neg h, chZ_0]
  · rw [if_neg q, if_neg h, chZ_0]
theorem nI_li {q : Nat} (h : q < 2 ^ 31) : (nI q).toInt64.toInt32 = nI q := by rw [nI_l h, lN_i]
/-- a step of the search from behind -/
theorem st_fY {M : Me} {b : Nat → Nat} {z t : Nat} {kx : Int32 → Int32 → Me → Option (Unit × Me)} {kb : Int32 × Int32 × Me → Option (Unit × Me)} (hb : Bb b) (hy : BYr M b) (hz : M.1 91 24 = nI z) (hz2 : z ≤ 2000) (ht : 22 + t ≤ z) : (eE b z t → g_X5_findEnd_10 kx kb 91 (nI z - 22 - nI t) 0 M = kb (nI (z - 22 - t), 1, M)) ∧ (¬ eE b z t → g_X5_findEnd_10 kx kb 91 (nI z - 22 - nI t) 0 M = kb (nI z - 22 - nI (t + 1), 0, M)) := by
  have h4 := n4_lt hb (z - 22 - t)
  have h2 := n2_lt hb (z - 22 - t + 20)
  have hnx : nI (z - 22 - t) - 1 = nI z - 22 - nI (t + 1) := by
    apply Int32.toInt_inj.mp
    rw [nI_m1_toInt (by omega), sub2 hz2 (by omega)]
    omega
  have h0 : nI (z - 22 - t) - 0 = nI (z - 22 - t) := Int32.sub_zero _
  rw [sub2_n hz2 ht]
  unfold g_X5_findEnd_10 j_X5_findEnd_67 j_X5_findEnd_68 j_X5_findEnd_79
  rw [if_neg (nI_pos (by omega)), if_pos (show (0 : Int32) = 0 from rfl), f_four hb hy (by omega), cal_s, show (20 : Int32) = nI 20 from rfl, nI_add, f_two hb hy (by omega), cal_s, f_two hb hy (by omega), cal_s, show (22 : Int32) = nI 22 from rfl, nI_add, nI_add, hz, if_pos (show (0 : Int32) = 0 from rfl), if_neg ne10, bndV_s, bndV_s]
  rw [show (22 : Int32) = nI 22 from rfl] at hnx
  rw [hnx, h0]
  have e1 : (lg_cmp (lN (nm b (z - 22 - t) 4)) (101010256 : Int64) = 0) = (nm b (z - 22 - t) 4 = 101010256) := lN_lgE (c := 101010256) (by omega) (by decide)
  refine ⟨fun q => ?_, fun q => ?_⟩
  · obtain ⟨q1, q2, q3, q4⟩ := q
    rw [if_pos (by rw [e1]; exact q3), if_neg (show ¬ (12 : Int32) < nI (nm b (z - 22 - t + 20) 2) from nI_nlt (a := 12) (by omega) (by decide)), if_pos (by rw [q4, show z - 22 - t + 22 + t = z by omega])]
  · by_cases q1 : nm b (z - 22 - t) 4 = 101010256
    · rw [if_pos (by rw [e1]; exact q1)]
      by_cases q2 : nm b (z - 22 - t + 20) 2 ≤ 12
      · rw [if_neg (show ¬ (12 : Int32) < nI (nm b (z - 22 - t + 20) 2) from nI_nlt (a := 12) q2 (by decide)), if_neg]
        intro e
        have e2 := (nI_eq (by omega) (by omega)).mp e
        exact q ⟨by omega, ht, q1, by omega⟩
      · rw [if_pos (show (12 : Int32) < nI (nm b (z - 22 - t + 20) 2) from nI_lt (a := 12) (by omega) (by omega))]
    · rw [if_neg (by rw [e1]; exact q1)]
theorem l_fY1 {M : Me} {b : Nat → Nat} {z t : Nat} {kx : Int32 → Int32 → Me → Option (Unit × Me)} (hb : Bb b) (hy : BYr M b) (hz : M.1 91 24 = nI z) (hz2 : z ≤ 2000) (ht : eF b z t) : l_X5_findEnd_10 kx 91 (nI z - 22) 0 M = kx (nI (eP z t)) 1 M := by
  have h1 := ht.1.2.1
  unfold l_X5_findEnd_10
  have e0 : ((nI z - 22, 0, M) : Int32 × Int32 × Me) = (fun j => if j ≤ t then (nI z - 22 - nI j, 0, M) else (nI (z - 22 - t), 1, M)) 0 := by
    show _ = if 0 ≤ t then _ else _
    rw [if_pos (by omega), show nI 0 = 0 from rfl, Int32.sub_zero]
  rw [e0]
  refine lp_run _ (fun j => if j ≤ t then (nI z - 22 - nI j, 0, M) else (nI (z - 22 - t), 1, M)) (t + 1) _ (fun kb j hj => ?_) (fun kb => ?_) FU 0 (by omega) (by unfold FU; have := ht.1.1; omega)
  · rw [if_pos (show j ≤ t by omega)]
    by_cases q : j = t
    · subst q
      rw [if_neg (show ¬ j + 1 ≤ j by omega)]
      exact (st_fY hb hy hz hz2 h1).1 ht.1
    · rw [if_pos (show j + 1 ≤ t by omega)]
      exact (st_fY hb hy hz hz2 (by omega)).2 (ht.2 j (by omega))
  · rw [if_neg (show ¬ t + 1 ≤ t by omega)]
    show g_X5_findEnd_10 _ kb 91 (nI (z - 22 - t)) 1 M = _
    unfold g_X5_findEnd_10
    rw [if_neg (nI_pos (by omega)), if_neg ne10]
    rfl
theorem l_fY0 {M : Me} {b : Nat → Nat} {z : Nat} {kx : Int32 → Int32 → Me → Option (Unit × Me)} (hb : Bb b) (hy : BYr M b) (hz : M.1 91 24 = nI z) (hz2 : z ≤ 2000) (ht : ∀ s, ¬ eE b z s) : ∃ v, l_X5_findEnd_10 kx 91 (nI z - 22) 0 M = kx v 0 M := by
  refine ⟨nI z - 22 - nI (z - 21), ?_⟩
  unfold l_X5_findEnd_10
  have e0 : ((nI z - 22, 0, M) : Int32 × Int32 × Me) = (fun j => (nI z - 22 - nI j, 0, M)) 0 := by
    show _ = (nI z - 22 - nI 0, 0, M)
    rw [show nI 0 = 0 from rfl, Int32.sub_zero]
  rw [e0]
  refine lp_run _ (fun j => (nI z - 22 - nI j, 0, M)) (z - 21) _ (fun kb j hj => ?_) (fun kb => ?_) FU 0 (by omega) (by unfold FU; omega)
  · exact (st_fY hb hy hz hz2 (by omega)).2 (ht j)
  · show g_X5_findEnd_10 _ kb 91 (nI z - 22 - nI (z - 21)) 0 M = _
    unfold g_X5_findEnd_10
    rw [if_pos (sub2_0 hz2 (by omega) (by omega))]
theorem f_YE {M : Me} {b : Nat → Nat} {z : Nat} (hb : Bb b) (hy : BYr M b) (hz : M.1 91 24 = nI z) (hz2 : z ≤ 2000) (h27 : M.1 91 27 = 0) : ((∀ s, ¬ eE b z s) → ∃ M', f_X5_findEnd M 91 = some ((), M') ∧ SY M M' ∧ M'.1 91 27 = nI 1 ∧ M'.1 91 28 = nI z) ∧ (∀ t, eF b z t → ¬ eOK b (eP z t) → ∃ M', f_X5_findEnd M 91 = some ((), M') ∧ SY M M' ∧ M'.1 91 27 = nI 2 ∧ M'.1 91 28 = nI (eP z t)) ∧ (∀ t, eF b z t → eOK b (eP z t) → ∃ M', f_X5_findEnd M 91 = some ((), M') ∧ SY M M' ∧ M'.1 91 27 = 0 ∧ M'.1 91 29 = nI (eP z t) ∧ M'.1 91 30 = nI (eR b z t) ∧ M'.1 91 31 = nI (eC b z t) ∧ M'.1 91 32 = nI (eZ b z t)) := by
  unfold f_X5_findEnd
  rw [hz, bndV_s]
  refine ⟨fun h => ?_, ?_⟩
  · obtain ⟨v, e⟩ := l_fY0 (kx := fun v9 v10 M11 => j_X5_findEnd_84 91 v9 v10 M11) hb hy hz hz2 h
    refine ⟨sI (sI M 91 27 1) 91 28 (nI z), e.trans ?_, (SY.refl.up (by omega)).up (by omega), ?_, ?_⟩
    · show j_X5_findEnd_84 91 v 0 M = some ((), sI (sI M 91 27 1) 91 28 (nI z))
      unfold j_X5_findEnd_84
      rw [w_f h27 (by decide), cal_s, if_pos (show (0 : Int32) = 0 from rfl), hz, nI_li (by omega)]
    · rw [sI_ne (by omega), sI_eq]; rfl
    · rw [sI_eq]
  · have both : ∀ t, eF b z t → (eOK b (eP z t) → ∃ M', f_X5_findEnd M 91 = some ((), M') ∧ SY M M' ∧ M'.1 91 27 = 0 ∧ M'.1 91 29 = nI (eP z t) ∧ M'.1 91 30 = nI (eR b z t) ∧ M'.1 91 31 = nI (eC b z t) ∧ M'.1 91 32 = nI (eZ b z t)) ∧ (¬ eOK b (eP z t) → ∃ M', f_X5_findEnd M 91 = some ((), M') ∧ SY M M' ∧ M'.1 91 27 = nI 2 ∧ M'.1 91 28 = nI (eP z t)) := by
      intro t ht
      have e := l_fY1 (kx := fun v9 v10 M11 => j_X5_findEnd_84 91 v9 v10 M11) hb hy hz hz2 ht
      obtain ⟨p, hp⟩ : ∃ p, p = eP z t := ⟨_, rfl⟩
      have hp0 : z - 22 - t = p := hp.symm
      have h22 := ht.1.2.1
      have eR' : eR b z t = nm b (p + 8) 2 := by rw [hp]; rfl
      have eC' : eC b z t = nm b (p + 16) 4 := by rw [hp]; rfl
      have eZ' : eZ b z t = nm b (p + 16) 4 + nm b (p + 12) 4 := by rw [hp]; rfl
      rw [eR', eC', eZ']
      rw [← hp] at e ⊢
      have h1 := n4_lt hb (p + 16)
      have h2 := n4_lt hb (p + 12)
      have h3 := n2_lt hb (p + 8)
      have h4 := n2_lt hb (p + 10)
      obtain ⟨A, hA⟩ : ∃ A, A = sI M 91 29 (nI p) := ⟨_, rfl⟩
      have yA : BYr A b := by rw [hA]; exact hy.up (by omega)
      obtain ⟨B, hB⟩ : ∃ B, B = sI A 91 30 (nI (nm b (p + 8) 2)) := ⟨_, rfl⟩
      have yB : BYr B b := by rw [hB]; exact yA.up (by omega)
      have sB : SY M B := by rw [hB, hA]; exact (SY.refl.up (by omega)).up (by omega)
      have b27 : B.1 91 27 = 0 := by rw [hB, sI_ne (by omega), hA, sI_ne (by omega)]; exact h27
      have b29 : B.1 91 29 = nI p := by rw [hB, sI_ne (by omega), hA, sI_eq]
      have b30 : B.1 91 30 = nI (nm b (p + 8) 2) := by rw [hB, sI_eq]
      have e2 : (eOK b p → f_X5_findEnd M 91 = some ((), sI (sI B 91 31 (nI (nm b (p + 16) 4))) 91 32 (nI (nm b (p + 16) 4 + nm b (p + 12) 4)))) ∧ (¬ eOK b p → f_X5_findEnd M 91 = some ((), sI (sI B 91 27 2) 91 28 (nI p))) := by
        unfold f_X5_findEnd
        rw [hz, bndV_s, e]
        have eT : j_X5_findEnd_179 91 (nI p) (lN (nm b (p + 16) 4)) (lN (nm b (p + 16) 4 + nm b (p + 12) 4)) 1 91 B = some ((), sI (sI B 91 31 (nI (nm b (p + 16) 4))) 91 32 (nI (nm b (p + 16) 4 + nm b (p + 12) 4))) := by
          unfold j_X5_findEnd_179
          rw [w_t b27, cal_s, if_neg ne10, bnd_s, bnd_s, lN_i, lN_i]
        have eN : j_X5_findEnd_178 91 (nI p) (lN (nm b (p + 16) 4)) (lN (nm b (p + 16) 4 + nm b (p + 12) 4)) 91 B = some ((), sI (sI B 91 27 2) 91 28 (nI p)) := by
          unfold j_X5_findEnd_178 j_X5_findEnd_179
          rw [w_f b27 (by decide), cal_s, if_pos (show (0 : Int32) = 0 from rfl), nI_li (by omega)]
        unfold j_X5_findEnd_84
        rw [w_t h27, cal_s, if_neg ne10, bnd_s, ← hA, show (8 : Int32) = nI 8 from rfl, nI_add, f_two hb yA (by omega), cal_s, bnd_s, ← hB, show (16 : Int32) = nI 16 from rfl, nI_add, f_four hb yB (by omega), cal_s, show (12 : Int32) = nI 12 from rfl, nI_add, f_four hb yB (by omega), cal_s, lN_add, bndV_s, eN, f_two hb yB (by omega), cal_s, show (10 : Int32) = nI 10 from rfl, nI_add, f_two hb yB (by omega), cal_s, b30, eT, nI_l (by omega)]
        simp only [lgg]
        rw [lN_tI (by omega), lN_tI (by omega)]
        by_cases q1 : nm b (p + 16) 4 + nm b (p + 12) 4 ≤ p
        · rw [if_neg (by omega)]
          by_cases q2 : nm b (p + 8) 2 = nm b (p + 10) 2
          · rw [if_pos (show nI (nm b (p + 8) 2) = nI (nm b (p + 10) 2) by rw [q2])]
            by_cases q3 : nm b (p + 8) 2 ≤ 12
            · rw [if_neg (nI_nlt q3 (by decide))]
              exact ⟨fun _ => rfl, fun z => absurd ⟨q1, q3, q2⟩ z⟩
            · rw [if_pos (nI_lt (by omega) (by omega))]
              exact ⟨fun z => absurd z.2.1 q3, fun _ => eN⟩
          · rw [if_neg (fun z => q2 ((nI_eq (by omega) (by omega)).mp z))]
            exact ⟨fun z => absurd z.2.2 q2, fun _ => eN⟩
        · rw [if_pos (by omega)]
          exact ⟨fun z => absurd z.1 q1, fun _ => rfl⟩
      refine ⟨fun hk => ?_, fun hk => ?_⟩
      · refine ⟨_, e2.1 hk, (sB.up (by omega)).up (by omega), ?_, ?_, ?_, ?_, ?_⟩
        · rw [sI_ne (by omega), sI_ne (by omega)]; exact b27
        · rw [sI_ne (by omega), sI_ne (by omega)]; exact b29
        · rw [sI_ne (by omega), sI_ne (by omega)]; exact b30
        · rw [sI_ne (by omega), sI_eq]
        · rw [sI_eq]
      · refine ⟨_, e2.2 hk, (sB.up (by omega)).up (by omega), ?_, ?_⟩
        · rw [sI_ne (by omega), sI_eq]; rfl
        · rw [sI_eq]
    have hu : f_X5_findEnd M 91 = l_X5_findEnd_10 (fun v9 v10 M11 => j_X5_findEnd_84 91 v9 v10 M11) 91 (nI z - 22) 0 M := by
      unfold f_X5_findEnd
      rw [hz, bndV_s]
    rw [hu] at both
    exact ⟨fun t h1 h2 => (both t h1).2 h2, fun t h1 h2 => (both t h1).1 h2⟩
/-- the rows -/
theorem f_YR {M : Me} {b : Nat → Nat} {cf ce rows : Nat} (hb : Bb b) (hy : BYr M b) (h27 : M.1 91 27 = 0) (h30 : M.1 91 30 = nI rows) (h31 : M.1 91 31 = nI cf) (h32 : M.1 91 32 = nI ce) (hr : rows ≤ 12) (hce : ce ≤ 2000) (hcf : cf ≤ ce) : (((∀ j, j < rows → rOK b ce (rs b cf j)) ∧ rs b cf rows = ce) → ∃ M', f_X5_findRows M 91 = some ((), M') ∧ (∀ x y, x ≠ 112 → M'.1 x y = M.1 x y) ∧ ∀ j, j < rows → M'.1 112 j = nI (rs b cf j)) ∧ (∀ q, fRw b cf ce rows q → ∃ M', f_X5_findRows M 91 = some ((), M') ∧ SY M M' ∧ M'.1 91 27 = nI 3 ∧ M'.1 91 28 = nI q) := by
  have hO : ∀ M1 : Me, (∀ x y, x ≠ 112 → M1.1 x y = M.1 x y) → BYr M1 b := fun M1 h => hy.same (fun y => h 111 y (by omega))
  have step : ∀ (kx : Int32 → Int32 → Me → Option (Unit × Me)) kb (r : Nat) (M1 : Me), r < rows → (∀ x y, x ≠ 112 → M1.1 x y = M.1 x y) → (∀ j, j < r → rOK b ce (rs b cf j)) → (rOK b ce (rs b cf r) → g_X5_findRows_7 kx kb 91 (nI (rs b cf r)) (nI r) M1 = kb (nI (rs b cf (r + 1)), nI (r + 1), sI M1 112 r (nI (rs b cf r)))) ∧ (¬ rOK b ce (rs b cf r) → g_X5_findRows_7 kx kb 91 (nI (rs b cf r)) (nI r) M1 = kb (nI (rs b cf r), nI (r + 1), sI (sI M1 91 27 3) 91 28 (nI (rs b cf r)))) := by
    intro kx kb r M1 hrr hT hok
    have hq := rs_le hcf r hok
    obtain ⟨q, eq⟩ : ∃ q, q = rs b cf r := ⟨_, rfl⟩
    have eS : rs b cf (r + 1) = nxt b q := by rw [eq]; rfl
    rw [eS, ← eq]
    rw [← eq] at hq
    have y1 := hO M1 hT
    have a27 : M1.1 91 27 = 0 := (hT 91 27 (by omega)).trans h27
    have a30 : M1.1 91 30 = nI rows := (hT 91 30 (by omega)).trans h30
    have a32 : M1.1 91 32 = nI ce := (hT 91 32 (by omega)).trans h32
    have eN : ∀ ln, j_X5_findRows_112 kx kb 91 (nI q) (nI r) ln 91 M1 = kb (nI q, nI (r + 1), sI (sI M1 91 27 3) 91 28 (nI q)) := by
      intro ln
      unfold j_X5_findRows_112 j_X5_findRows_113 j_X5_findRows_134
      rw [w_f a27 (by decide), cal_s, if_pos (show (0 : Int32) = 0 from rfl), bndV_s, nI_1, nI_li (by omega)]
    have e60 : j_X5_findRows_60 kx kb 91 (nI q) (nI r) M1 = kb (nI q, nI (r + 1), sI (sI M1 91 27 3) 91 28 (nI q)) := by
      unfold j_X5_findRows_60 j_X5_findRows_61 j_X5_findRows_90
      rw [if_pos (show (0 : Int32) = 0 from rfl), if_pos (show (0 : Int32) = 0 from rfl)]
      exact eN _
    have h4 := n4_lt hb q
    have h2 := n2_lt hb (q + 32)
    have h28 := n2_lt hb (q + 28)
    have h30' := n2_lt hb (q + 30)
    have ern : nm b (q + 28) 2 = rN b q := rfl
    have ere : nm b (q + 30) 2 = rE b q := rfl
    have hnx : nxt b q = q + 46 + rN b q + rE b q := rfl
    rw [ern] at h28
    rw [ere] at h30'
    have e1 : (lg_cmp (lN (nm b q 4)) (33639248 : Int64) = 0) = (nm b q 4 = 33639248) := lN_lgE (c := 33639248) (by omega) (by decide)
    unfold g_X5_findRows_7
    rw [a30, if_neg (nI_ge hrr (by omega)), a27, if_pos (show (0 : Int32) = 0 from rfl), a32, e60, show (46 : Int32) = nI 46 from rfl, nI_add]
    rcases Nat.lt_or_ge ce (q + 46) with g1 | g1
    · rw [if_pos (nI_lt g1 (by omega))]
      exact ⟨fun z => by have := z.1; omega, fun _ => rfl⟩
    rw [if_neg (nI_nlt g1 (by omega)), f_four hb y1 (by omega), cal_s]
    rcases (Classical.em (nm b q 4 = 33639248)).symm with g2 | g2
    · rw [if_neg (by rw [e1]; exact g2)]
      exact ⟨fun z => absurd z.2.1 g2, fun _ => e60⟩
    rw [if_pos (by rw [e1]; exact g2), show (32 : Int32) = nI 32 from rfl, nI_add, f_two hb y1 (by omega), cal_s]
    rcases (Classical.em (nm b (q + 32) 2 = 0)).symm with g3 | g3
    · rw [if_neg (show ¬ nI (nm b (q + 32) 2) = (0 : Int32) from fun z => g3 ((nI_eq (b := 0) (by omega) (by decide)).mp z))]
      exact ⟨fun z => absurd z.2.2.1 g3, fun _ => e60⟩
    rw [if_pos (show nI (nm b (q + 32) 2) = (0 : Int32) by rw [g3]; rfl)]
    unfold j_X5_findRows_61
    rw [if_neg ne10, show (28 : Int32) = nI 28 from rfl, nI_add, f_two hb y1 (by omega), cal_s, show (30 : Int32) = nI 30 from rfl, nI_add, f_two hb y1 (by omega), cal_s, ern, ere, show (46 : Int32) = nI 46 from rfl, nI_add, nI_add]
    unfold j_X5_findRows_90
    rw [if_neg ne10, a32, nI_add, eN]
    rcases Nat.lt_or_ge ce (q + (46 + rN b q + rE b q)) with g4 | g4
    · rw [if_pos (nI_lt g4 (by omega))]
      exact ⟨fun z => by have := z.2.2.2; omega, fun _ => rfl⟩
    · rw [if_neg (nI_nlt g4 (by omega))]
      refine ⟨fun _ => ?_, fun z => absurd ⟨g1, g2, g3, by omega⟩ z⟩
      unfold j_X5_findRows_113 j_X5_findRows_134
      rw [w_t a27, cal_s, if_neg ne10, rf_91_33, chk_n _ (show r < ln 112 by rw [ln_112]; omega) (by decide), bnd_s, nI_add, bndV_s, bndV_s, nI_1, nI_clamp (by omega), show q + (46 + rN b q + rE b q) = nxt b q by omega]
  have fin0 : ∀ (M1 : Me) (v : Int32), ¬ M1.1 91 27 = 0 → j_X5_findRows_140 91 v M1 = some ((), M1) := by
    intro M1 v h
    unfold j_X5_findRows_140 j_X5_findRows_154
    by_cases q : v = M1.1 91 32
    · rw [if_pos q, w_s h, cal_s]
    · rw [if_neg q, w_s h, cal_s]
  unfold f_X5_findRows l_X5_findRows_7
  rw [h31, bndV_s]
  have T0 : ∃ M1, ((nI cf, (0 : Int32), M) : Int32 × Int32 × Me) = (nI (rs b cf 0), nI 0, M1) ∧ (∀ x y, x ≠ 112 → M1.1 x y = M.1 x y) ∧ ∀ j, j < 0 → M1.1 112 j = nI (rs b cf j) := ⟨M, rfl, fun _ _ _ => rfl, fun j hj => by omega⟩
  have stp : ∀ (kx : Int32 → Int32 → Me → Option (Unit × Me)) (r : Nat) (s : Int32 × Int32 × Me), r < rows → (∀ j, j ≤ r → rOK b ce (rs b cf j)) → (∃ M1, s = (nI (rs b cf r), nI r, M1) ∧ (∀ x y, x ≠ 112 → M1.1 x y = M.1 x y) ∧ ∀ j, j < r → M1.1 112 j = nI (rs b cf j)) → ∃ s', (∃ M1, s' = (nI (rs b cf (r + 1)), nI (r + 1), M1) ∧ (∀ x y, x ≠ 112 → M1.1 x y = M.1 x y) ∧ ∀ j, j < r + 1 → M1.1 112 j = nI (rs b cf j)) ∧ ∀ kb, g_X5_findRows_7 kx kb 91 s.1 s.2.1 s.2.2 = kb s' := by
    intro kx r s hrr hok hI
    obtain ⟨M1, e, hT, hj⟩ := hI
    subst e
    refine ⟨_, ⟨sI M1 112 r (nI (rs b cf r)), rfl, fun x y hx => by rw [sI_ne (by omega)]; exact hT x y hx, fun j hjr => ?_⟩, fun kb => (step kx kb r M1 hrr hT (fun j hj => hok j (by omega))).1 (hok r (by omega))⟩
    by_cases q : j = r
    · subst q
      rw [sI_eq]
    · rw [sI_ne (by omega)]
      exact hj j (by omega)
  refine ⟨fun hg => ?_, fun q hf => ?_⟩
  · have := lp_inv (g := fun kb (z : Int32 × Int32 × Me) => g_X5_findRows_7 (fun v15 v16 M17 => j_X5_findRows_140 91 v15 M17) kb 91 z.1 z.2.1 z.2.2) (fun r s => ∃ M1, s = (nI (rs b cf r), nI r, M1) ∧ (∀ x y, x ≠ 112 → M1.1 x y = M.1 x y) ∧ ∀ j, j < r → M1.1 112 j = nI (rs b cf j)) (fun R => ∃ M', R = some ((), M') ∧ (∀ x y, x ≠ 112 → M'.1 x y = M.1 x y) ∧ ∀ j, j < rows → M'.1 112 j = nI (rs b cf j)) rows (fun r s hrr hI => stp _ r s hrr (fun j hj => hg.1 j (by omega)) hI) (fun s hI => ?_) FU 0 (nI cf, 0, M) (by omega) (by unfold FU; omega) T0
    · obtain ⟨R, ⟨M', e1, e2⟩, e3⟩ := this
      exact ⟨M', e3.trans e1, e2⟩
    · obtain ⟨M1, e, hT, hj⟩ := hI
      subst e
      refine ⟨_, ⟨M1, rfl, hT, hj⟩, fun kb => ?_⟩
      show g_X5_findRows_7 _ kb 91 (nI (rs b cf rows)) (nI rows) M1 = _
      unfold g_X5_findRows_7
      rw [hT 91 30 (by omega), h30, if_pos (nI_le (Nat.le_refl rows) (by omega))]
      show j_X5_findRows_140 91 (nI (rs b cf rows)) M1 = _
      unfold j_X5_findRows_140 j_X5_findRows_154
      rw [hT 91 32 (by omega), h32, if_pos (by rw [hg.2]), w_t ((hT 91 27 (by omega)).trans h27), cal_s]
  · rcases hf with ⟨r0, hr0, hok, hbad, hq⟩ | ⟨hok, hne, hq⟩
    · have hle := rs_le hcf r0 hok
      have := lp_inv (g := fun kb (z : Int32 × Int32 × Me) => g_X5_findRows_7 (fun v15 v16 M17 => j_X5_findRows_140 91 v15 M17) kb 91 z.1 z.2.1 z.2.2) (fun r s => (r ≤ r0 → ∃ M1, s = (nI (rs b cf r), nI r, M1) ∧ (∀ x y, x ≠ 112 → M1.1 x y = M.1 x y) ∧ ∀ j, j < r → M1.1 112 j = nI (rs b cf j)) ∧ (r = r0 + 1 → ∃ v w M1, s = (v, w, M1) ∧ SY M M1 ∧ M1.1 91 27 = nI 3 ∧ M1.1 91 28 = nI q)) (fun R => ∃ M', R = some ((), M') ∧ SY M M' ∧ M'.1 91 27 = nI 3 ∧ M'.1 91 28 = nI q) (r0 + 1) (fun r s hrr hI => ?_) (fun s hI => ?_) FU 0 (nI cf, 0, M) (by omega) (by unfold FU; omega) ⟨fun _ => T0, fun h => by omega⟩
      · obtain ⟨R, ⟨M', e1, e2⟩, e3⟩ := this
        exact ⟨M', e3.trans e1, e2⟩
      · by_cases hlt : r < r0
        · obtain ⟨s', h1, h2⟩ := stp (fun v15 v16 M17 => j_X5_findRows_140 91 v15 M17) r s (by omega) (fun j hj => hok j (by omega)) (hI.1 (by omega))
          exact ⟨s', ⟨fun _ => h1, fun h => by omega⟩, h2⟩
        · have e : r = r0 := by omega
          subst e
          obtain ⟨M1, e, hT, hj⟩ := hI.1 (by omega)
          subst e
          refine ⟨_, ⟨fun h => by omega, fun _ => ⟨_, _, _, rfl, ?_, ?_, ?_⟩⟩, fun kb => (step _ kb r M1 hr0 hT hok).2 hbad⟩
          · exact SY.up (SY.up (fun x y h1 h2 => hT x y (by omega)) (by omega)) (by omega)
          · rw [sI_ne (by omega), sI_eq]; rfl
          · rw [sI_eq, hq]
      · obtain ⟨v, w, M1, e, hS, e27, e28⟩ := hI.2 rfl
        subst e
        have h27' : ¬ M1.1 91 27 = 0 := by rw [e27]; decide
        refine ⟨some ((), M1), ⟨M1, rfl, hS, e27, e28⟩, fun kb => ?_⟩
        show g_X5_findRows_7 _ kb 91 v w M1 = _
        unfold g_X5_findRows_7
        rw [if_neg h27']
        by_cases z : M1.1 91 30 ≤ w
        · rw [if_pos z]; exact fin0 M1 v h27'
        · rw [if_neg z]; exact fin0 M1 v h27'
    · have hle := rs_le hcf rows hok
      have := lp_inv (g := fun kb (z : Int32 × Int32 × Me) => g_X5_findRows_7 (fun v15 v16 M17 => j_X5_findRows_140 91 v15 M17) kb 91 z.1 z.2.1 z.2.2) (fun r s => ∃ M1, s = (nI (rs b cf r), nI r, M1) ∧ (∀ x y, x ≠ 112 → M1.1 x y = M.1 x y) ∧ ∀ j, j < r → M1.1 112 j = nI (rs b cf j)) (fun R => ∃ M', R = some ((), M') ∧ SY M M' ∧ M'.1 91 27 = nI 3 ∧ M'.1 91 28 = nI q) rows (fun r s hrr hI => stp _ r s hrr (fun j hj => hok j (by omega)) hI) (fun s hI => ?_) FU 0 (nI cf, 0, M) (by omega) (by unfold FU; omega) T0
      · obtain ⟨R, ⟨M', e1, e2⟩, e3⟩ := this
        exact ⟨M', e3.trans e1, e2⟩
      · obtain ⟨M1, e, hT, hj⟩ := hI
        subst e
        refine ⟨_, ⟨sI (sI M1 91 27 3) 91 28 (nI q), rfl, SY.up (SY.up (fun x y h1 h2 => hT x y (by omega)) (by omega)) (by omega), ?_, sI_eq⟩, fun kb => ?_⟩
        · rw [sI_ne (by omega), sI_eq]; rfl
        · show g_X5_findRows_7 _ kb 91 (nI (rs b cf rows)) (nI rows) M1 = _
          unfold g_X5_findRows_7
          rw [hT 91 30 (by omega), h30, if_pos (nI_le (Nat.le_refl rows) (by omega))]
          show j_X5_findRows_140 91 (nI (rs b cf rows)) M1 = _
          unfold j_X5_findRows_140 j_X5_findRows_154
          rw [hT 91 32 (by omega), h32, if_neg (fun z => hne ((nI_eq (by omega) (by omega)).mp z)), w_f ((hT 91 27 (by omega)).trans h27) (by decide), cal_s, nI_li (by omega), hq]
