theorem y_127 {U : Me} {b : Nat → Nat} {p t : Nat} (kx : Int32 → Me → Option (Int32 × Me)) (hy : BYr U b) (h22 : U.1 91 22 = nI t) (h29 : U.1 91 29 = nI p) (ht : t ≤ 12) (hp : p + 22 + t ≤ 2000) : l_X5_read_127 kx 91 0 U = kx (nI t) (cp nI U 110 0 b (p + 22) t) := by
  unfold l_X5_read_127
  refine lp_for _ (fun k => cp nI U 110 0 b (p + 22) k) t _ (fun kb k hk => ?_) (fun kb => ?_) FU 0 (by omega) (by unfold FU; omega)
  · show g_X5_read_127 _ kb 91 (nI k) (cp nI U 110 0 b (p + 22) k) = kb (nI (k + 1), sI (cp nI U 110 0 b (p + 22) k) 110 (0 + k) (nI (b (p + 22 + k))))
    unfold g_X5_read_127
    rw [cp_ne k (by omega), h22, if_neg (nI_ge hk (by omega)), cp_ne k (by omega), h29, show (22 : Int32) = nI 22 from rfl, nI_add, nI_add, rf_91_23, rf_91_21, chk_n _ (show p + 22 + k < ln 111 by rw [ln_111]; omega) (by decide), chk_n _ (show k < ln 110 by rw [ln_110]; omega) (by decide), bnd_s, bndV_s, nI_1, nI_clamp (by omega), nI_clamp (by omega), cp_ne k (by omega), hy _ (by omega), Nat.zero_add]
  · show g_X5_read_127 _ kb 91 (nI t) (cp nI U 110 0 b (p + 22) t) = _
    unfold g_X5_read_127
    rw [cp_ne t (by omega), h22, if_pos (nI_le (Nat.le_refl t) (by omega))]
theorem y_flt {M : Me} {b : Nat → Nat} {z κ pl : Nat} (hb : Bb b) (hy : BYr M b) (hz : M.1 91 24 = nI z) (hz2 : z ≤ 2000) (hf : flt b z κ pl) : ∃ M', f_X5_read M 91 = some (-10 - nI κ, M') ∧ M'.1 91 26 = nI pl ∧ ∀ x y, x < 112 → ¬ (x = 91 ∧ (y = 0 ∨ 26 ≤ y)) → M'.1 x y = M.1 x y := by
  obtain ⟨A, hA⟩ : ∃ A, A = sI (sI M 91 0 0) 91 27 0 := ⟨_, rfl⟩
  have aF : ∀ x y, ¬ (x = 91 ∧ (y = 0 ∨ y = 27)) → A.1 x y = M.1 x y := fun x y h => by rw [hA, sI_ne (by omega), sI_ne (by omega)]
  have a27 : A.1 91 27 = 0 := by rw [hA, sI_eq]
  have yA : BYr A b := hy.same (fun y => aF 111 y (by omega))
  have a24 : A.1 91 24 = nI z := (aF 91 24 (by omega)).trans hz
  obtain ⟨E1, E2, E3⟩ := f_YE hb yA a24 hz2 a27
  have fin : ∀ P : Me, 1 ≤ κ → κ ≤ 10 → P.1 91 27 = nI κ → P.1 91 28 = nI pl → j_X5_read_53 91 P = some (-10 - nI κ, sI P 91 26 (nI pl)) := by
    intro P h1 h2 p27 p28
    unfold j_X5_read_53
    rw [p27, if_neg (show ¬ nI κ ≤ (0 : Int32) from nI_ge (a := 0) (by omega) (by omega)), p28, bnd_s, sI_ne (by omega), p27]
  have stop : ∀ P : Me, 1 ≤ κ → κ ≤ 10 → P.1 91 27 = nI κ → P.1 91 28 = nI pl → j_X5_read_25 91 P = some (-10 - nI κ, sI P 91 26 (nI pl)) := by
    intro P h1 h2 p27 p28
    have h27' : ¬ P.1 91 27 = 0 := by
      rw [p27]
      intro z
      have := (nI_eq (b := 0) (by omega) (by decide)).mp z
      omega
    unfold j_X5_read_25 l_X5_read_27
    obtain ⟨f', hf1⟩ : ∃ f', FU = f' + 1 := ⟨FU - 1, by unfold FU; omega⟩
    have e0 : lp (fun kb (z : Int32 × Me) => g_X5_read_27 (fun v8 M9 => j_X5_read_53 91 M9) kb 91 z.1 z.2) (f' + 1) (0, P) = g_X5_read_27 (fun v8 M9 => j_X5_read_53 91 M9) (lp (fun kb (z : Int32 × Me) => g_X5_read_27 (fun v8 M9 => j_X5_read_53 91 M9) kb 91 z.1 z.2) f') 91 0 P := rfl
    rw [hf1, e0]
    unfold g_X5_read_27
    rw [if_neg h27']
    by_cases w : P.1 91 30 ≤ 0
    · rw [if_pos w]; exact fin P h1 h2 p27 p28
    · rw [if_neg w]; exact fin P h1 h2 p27 p28
  have out : ∀ P : Me, SY A P → P.1 91 27 = nI κ → P.1 91 28 = nI pl → (sI P 91 26 (nI pl)).1 91 26 = nI pl ∧ ∀ x y, x < 112 → ¬ (x = 91 ∧ (y = 0 ∨ 26 ≤ y)) → (sI P 91 26 (nI pl)).1 x y = M.1 x y := by
    intro P hS _ _
    refine ⟨sI_eq, fun x y h1 h2 => ?_⟩
    rw [sI_ne (by omega), hS x y (by omega) h1]
    exact aF x y (by omega)
  unfold f_X5_read
  rw [bnd_s, bnd_s, ← hA]
  rcases hf with ⟨h1, e1, e2⟩ | ⟨t, hF, hf⟩
  · subst e1
    subst e2
    obtain ⟨P, p1, pS, p27, p28⟩ := E1 h1
    obtain ⟨o1, o2⟩ := out P pS p27 p28
    refine ⟨_, ?_, o1, o2⟩
    rw [p1, cal_s, if_neg (by rw [p27]; decide)]
    exact stop P (by omega) (by omega) p27 p28
  rcases hf with ⟨h1, e1, e2⟩ | ⟨hK, hf⟩
  · subst e1
    subst e2
    obtain ⟨P, p1, pS, p27, p28⟩ := E2 t hF h1
    obtain ⟨o1, o2⟩ := out P pS p27 p28
    refine ⟨_, ?_, o1, o2⟩
    rw [p1, cal_s, if_neg (by rw [p27]; decide)]
    exact stop P (by omega) (by omega) p27 p28
  obtain ⟨P, p1, pS, p27, p29, p30, p31, p32⟩ := E3 t hF hK
  rw [p1, cal_s, if_pos p27]
  have hz1 : eZ b z t ≤ eP z t := hK.1
  have hz0 : eP z t = z - 22 - t := rfl
  have hcz : eC b z t ≤ eZ b z t := Nat.le_add_right _ _
  have yP := pS.by yA
  obtain ⟨R1, R2⟩ := f_YR hb yP p27 p30 p31 p32 hK.2.1 (by omega) hcz
  rcases hf with ⟨hr, e1⟩ | ⟨hr, i, hi, hg, hbad⟩
  · subst e1
    obtain ⟨Q, q1, qS, q27, q28⟩ := R2 pl hr
    obtain ⟨o1, o2⟩ := out Q (pS.trans qS) q27 q28
    refine ⟨_, ?_, o1, o2⟩
    rw [q1, cal_s]
    exact stop Q (by omega) (by omega) q27 q28
  · obtain ⟨Q, q1, qF, q112⟩ := R1 hr
    have hκ : 4 ≤ κ ∧ κ ≤ 10 := by
      unfold bad at hbad
      omega
    have hrow : eR b z t ≤ 12 := hK.2.1
    obtain ⟨v, T, t1, t27, t28, tF⟩ := (l_rC (fun v8 M9 => j_X5_read_53 91 M9) hb (yP.same (fun y => qF 111 y (by omega))) hrow ((qF 91 27 (by omega)).trans p27) ((qF 91 30 (by omega)).trans p30) ((qF 91 31 (by omega)).trans p31) q112 (by omega) (fun i hi => rs_nx hz2 hK hr hi)).2 i κ pl hi hg hbad
    have tS : SY A T := fun x y h1 h2 => by
      rw [tF x y (by omega) (by omega) (by omega), qF x y (by omega)]
      exact pS x y h1 h2
    obtain ⟨o1, o2⟩ := out T tS t27 t28
    refine ⟨_, ?_, o1, o2⟩
    rw [q1, cal_s]
    unfold j_X5_read_25
    rw [t1]
    exact fin T (by omega) (by omega) t27 t28
theorem y_whl {M : Me} {b : Nat → Nat} {z t : Nat} (hb : Bb b) (hy : BYr M b) (hz : M.1 91 24 = nI z) (hz2 : z ≤ 2000) (hw : whl b z t) : ∃ M', f_X5_read M 91 = some (nI (eR b z t), M') ∧ M'.1 91 2 = nI (eR b z t) ∧ M'.1 91 22 = nI t ∧ M'.1 91 26 = -1 ∧ (∀ k, M'.1 110 k = if k < t then nI (b (eP z t + 22 + k)) else M.1 110 k) ∧ (∀ i, i < eR b z t → ∃ m, prt b (pq b (rs b (eC b z t) i)) (nxt b (rs b (eC b z t) i)) m ∧ EV M'.1 M.1 b (rs b (eC b z t) i) i m) ∧ ∀ x y, x < 112 → ¬ (x = 91 ∧ (y = 0 ∨ y = 2 ∨ y = 22 ∨ 26 ≤ y)) → x ≠ 110 → (∀ i, i < eR b z t → ¬ own i x y) → M'.1 x y = M.1 x y := by
  obtain ⟨hF, hK, hr, hg⟩ := hw
  obtain ⟨A, hA⟩ : ∃ A, A = sI (sI M 91 0 0) 91 27 0 := ⟨_, rfl⟩
  have aF : ∀ x y, ¬ (x = 91 ∧ (y = 0 ∨ y = 27)) → A.1 x y = M.1 x y := fun x y h => by rw [hA, sI_ne (by omega), sI_ne (by omega)]
  have a27 : A.1 91 27 = 0 := by rw [hA, sI_eq]
  have yA : BYr A b := hy.same (fun y => aF 111 y (by omega))
  have a24 : A.1 91 24 = nI z := (aF 91 24 (by omega)).trans hz
  obtain ⟨P, p1, pS, p27, p29, p30, p31, p32⟩ := (f_YE hb yA a24 hz2 a27).2.2 t hF hK
  have hz1 : eZ b z t ≤ eP z t := hK.1
  have hz0 : eP z t = z - 22 - t := rfl
  have ht12 := hF.1.1
  have ht22 := hF.1.2.1
  have htt : nm b (eP z t + 20) 2 = t := hF.1.2.2.2
  have hcz : eC b z t ≤ eZ b z t := Nat.le_add_right _ _
  have hrow : eR b z t ≤ 12 := hK.2.1
  have yP := pS.by yA
  obtain ⟨Q, q1, qF, q112⟩ := (f_YR hb yP p27 p30 p31 p32 hrow (by omega) hcz).1 hr
  obtain ⟨v, T, t1, t27, tF⟩ := (l_rC (fun v8 M9 => j_X5_read_53 91 M9) hb (yP.same (fun y => qF 111 y (by omega))) hrow ((qF 91 27 (by omega)).trans p27) ((qF 91 30 (by omega)).trans p30) ((qF 91 31 (by omega)).trans p31) q112 (by omega) (fun i hi => rs_nx hz2 hK hr hi)).1 hg
  have tP : ∀ y, (y = 29 ∨ y = 30) → T.1 91 y = P.1 91 y := fun y h => by rw [tF 91 y (by omega) (by omega) (by omega), qF 91 y (by omega)]
  have tM : ∀ x y, x < 112 → ¬ (x = 91 ∧ (y = 0 ∨ 27 ≤ y)) → T.1 x y = M.1 x y := fun x y h1 h2 => by
    rw [tF x y (by omega) (by omega) (by omega), qF x y (by omega), pS x y (by omega) h1]
    exact aF x y (by omega)
  have t30 : T.1 91 30 = nI (eR b z t) := (tP 30 (by omega)).trans p30
  have t29 : T.1 91 29 = nI (eP z t) := (tP 29 (by omega)).trans p29
  obtain ⟨N, hN⟩ : ∃ N, N = sI (sI T 91 26 (-1)) 91 2 (nI (eR b z t)) := ⟨_, rfl⟩
  have nF : ∀ x y, ¬ (x = 91 ∧ (y = 26 ∨ y = 2)) → N.1 x y = T.1 x y := fun x y h => by rw [hN, sI_ne (by omega), sI_ne (by omega)]
  have yN : BYr N b := hy.same (fun y => by rw [nF 111 y (by omega)]; exact tM 111 y (by omega) (by omega))
  have nown : ∀ i y x, x < 92 ∨ 109 < x → ¬ own i x y := fun i y x h => by unfold own scl; omega
  obtain ⟨W, w1, wE, wF⟩ := l_rY (fun v15 M16 => cal (f_X5_two M16 91 ((M16.1 91 29) + (20 : Int32))) (fun r17 M18 => bnd (sI M18 91 22 r17) (fun M19 => l_X5_read_127 (fun v23 M24 => some ((M24.1 91 2), M24)) 91 (0 : Int32) M19))) hb yN hrow ((nF 91 30 (by omega)).trans t30) (fun i hi => by rw [nF 112 i (by omega), tF 112 i (by omega) (by omega) (by omega)]; exact q112 i hi) (by omega) (fun i hi => rs_nx hz2 hK hr hi) hg
  have wO : ∀ x y, (x < 92 ∨ 109 < x) → ¬ (x = 91 ∧ 34 ≤ y ∧ y ≤ 38) → W.1 x y = N.1 x y := fun x y h1 h2 => wF x y h2 (fun i _ => nown i y x h1)
  have yW : BYr W b := yN.same (fun y => wO 111 y (by omega) (by omega))
  have w29 : W.1 91 29 = nI (eP z t) := by rw [wO 91 29 (by omega) (by omega), nF 91 29 (by omega)]; exact t29
  obtain ⟨U, hU⟩ : ∃ U, U = sI W 91 22 (nI t) := ⟨_, rfl⟩
  have uF : ∀ x y, ¬ (x = 91 ∧ y = 22) → U.1 x y = W.1 x y := fun x y h => by rw [hU, sI_ne h]
  have u22 : U.1 91 22 = nI t := by rw [hU, sI_eq]
  have yU : BYr U b := yW.same (fun y => uF 111 y (by omega))
  have e127 := y_127 (fun v23 M24 => some ((M24.1 91 2), M24)) yU u22 ((uF 91 29 (by omega)).trans w29) ht12 (show eP z t + 22 + t ≤ 2000 by omega)
  obtain ⟨V, hV⟩ : ∃ V, V = cp nI U 110 0 b (eP z t + 22) t := ⟨_, rfl⟩
  have vF : ∀ x y, x ≠ 110 → V.1 x y = U.1 x y := fun x y h => by rw [hV, cp_ne _ (by omega)]
  have v2 : V.1 91 2 = nI (eR b z t) := by rw [vF 91 2 (by omega), uF 91 2 (by omega), wO 91 2 (by omega) (by omega), hN, sI_eq]
  refine ⟨V, ?_, v2, ?_, ?_, fun k => ?_, fun i hi => ?_, fun x y h1 h2 h3 h4 => ?_⟩
  · unfold f_X5_read
    rw [bnd_s, bnd_s, ← hA, p1, cal_s, if_pos p27, q1, cal_s]
    unfold j_X5_read_25
    rw [t1]
    show j_X5_read_53 91 T = _
    unfold j_X5_read_53
    rw [t27, if_pos (by decide), bnd_s, bnd_s, sI_ne (by omega), t30, ← hN, w1]
    show cal (f_X5_two W 91 ((W.1 91 29) + (20 : Int32))) _ = _
    rw [w29, show (20 : Int32) = nI 20 from rfl, nI_add, f_two hb yW (by omega), cal_s, htt, bnd_s, ← hU]
    refine e127.trans ?_
    show some ((cp nI U 110 0 b (eP z t + 22) t).1 91 2, cp nI U 110 0 b (eP z t + 22) t) = _
    rw [← hV, v2]
  · rw [vF 91 22 (by omega)]; exact u22
  · rw [vF 91 26 (by omega), uF 91 26 (by omega), wO 91 26 (by omega) (by omega), hN, sI_ne (by omega), sI_eq]
  · rw [hV, cp_if]
    by_cases w : k < t
    · rw [if_pos w, if_pos w]
    · rw [if_neg w, if_neg w, uF 110 k (by omega), wO 110 k (by omega) (by omega), nF 110 k (by omega)]
      exact tM 110 k (by omega) (by omega)
  · obtain ⟨m, hp, hE⟩ := wE i hi
    refine ⟨m, hp, hE.tr (fun a k ho => ?_) (fun a k ho => ?_)⟩
    · have h9 : 92 ≤ a ∧ a ≤ 109 := by unfold own scl at ho; omega
      rw [nF a k (by omega)]
      exact (tM a k (by omega) (by omega)).symm
    · have h9 : 92 ≤ a ∧ a ≤ 109 := by unfold own scl at ho; omega
      rw [vF a k (by omega), uF a k (by omega)]
  · rw [vF x y h3, uF x y (by omega), wF x y (by omega) h4, nF x y (by omega)]
    exact tM x y h1 (by omega)
theorem loc_hi {a k : Nat} (hv : vd a k) (ha : 92 ≤ a) : (loc a k).1 = 3 ∨ 18 ≤ (loc a k).1 := by
  have h2 : a ≤ 111 := by
    rcases hv with ⟨g, _⟩ | ⟨_, g, _⟩ <;> omega
  rcases (show a = 92 ∨ a = 93 ∨ a = 94 ∨ a = 95 ∨ a = 96 ∨ a = 97 ∨ a = 98 ∨ a = 99 ∨ a = 100 ∨ a = 101 ∨ a = 102 ∨ a = 103 ∨ a = 104 ∨ a = 105 ∨ a = 106 ∨ a = 107 ∨ a = 108 ∨ a = 109 ∨ a = 110 ∨ a = 111 by omega) with q | q | q | q | q | q | q | q | q | q | q | q | q | q | q | q | q | q | q | q <;> subst q <;> first | exact Or.inl rfl | exact Or.inr (show 18 ≤ 19 + 6 * k by omega) | exact Or.inr (show 18 ≤ 20 + 6 * (k / 16) by omega) | exact Or.inr (show 18 ≤ 22 + 6 * (k / 3) by omega) | exact Or.inr (show 18 ≤ 23 + 6 * (k / 3) by omega) | exact Or.inr (show 18 ≤ 24 + 6 * (k / 24) by omega) | exact Or.inr (show 18 ≤ 21 + 6 * (k / 40) by omega) | exact Or.inr (Nat.le_refl 18)
theorem op_read {M : Me} (h : INV M) : OP (fun M => f_X4_read M 0) (fun M => f_X5_read M 91) M := by
  obtain ⟨n, z, c, hi⟩ := h
  obtain ⟨b, hb, hx, hy⟩ := hi.bytes
  have hz2 := hi.1.2.1
  rcases f_iW hb hx hi.xz hz2 with ⟨t, hw, M1, e1, fr, r2, r3, r4, rr⟩ | ⟨κ, pl, hf, M1, e1, fr⟩
  · have hw' := hw
    obtain ⟨hF, hK, hr, hg⟩ := hw'
    have hz1 : eZ b z t ≤ eP z t := hK.1
    have hz0 : eP z t = z - 22 - t := rfl
    have ht12 := hF.1.1
    have ht22 := hF.1.2.1
    have hcz : eC b z t ≤ eZ b z t := Nat.le_add_right _ _
    have hrow : eR b z t ≤ 12 := hK.2.1
    obtain ⟨N, hN⟩ : ∃ N, N = sI (sI M1 0 7 (-1)) 0 4 (nI (eR b z t)) := ⟨_, rfl⟩
    have nF : ∀ x y, ¬ (x = 0 ∧ (y = 7 ∨ y = 4)) → N.1 x y = M1.1 x y := fun x y h => by rw [hN, sI_ne (by omega), sI_ne (by omega)]
    have N2 : N.2 = M1.2 := by rw [hN]; rfl
    have xN : BX N b := hx.same (fun y => by rw [nF 3 y (by omega)]; exact fr 3 y (by omega))
    have n04 : N.1 0 4 = nI (eR b z t) := by rw [hN, sI_eq]
    have n07 : N.1 0 7 = -1 := by rw [hN, sI_ne (by omega), sI_eq]
    obtain ⟨W, w1, wE, wF⟩ := l_rX (fun v10 M11 => j_X4_read_92 0 M11) hb xN hrow n04 (by omega) (fun i hi => rs_nx hz2 hK hr hi) (fun i hi => (rr i hi).1.lo (fun y => nF _ y (by omega)) N2) (fun i hi => (rr i hi).2.lo (fun y => nF _ y (by omega)) N2) hg
    obtain ⟨U, hU⟩ : ∃ U, U = sI W 0 5 (nI t) := ⟨_, rfl⟩
    have uF : ∀ x y, ¬ (x = 0 ∧ y = 5) → U.1 x y = W.1 x y := fun x y h => by rw [hU, sI_ne h]
    have u05 : U.1 0 5 = nI t := by rw [hU, sI_eq]
    have xU : BX U b := xN.same (fun y => by rw [uF 3 y (by omega)]; exact wF 3 y (by omega))
    obtain ⟨V, hV⟩ : ∃ V, V = cp bI U 18 0 b (eP z t + 22) t := ⟨_, rfl⟩
    have vF : ∀ x y, x ≠ 18 → V.1 x y = U.1 x y := fun x y h => by rw [hV, cp_ne _ (by omega)]
    have vW : ∀ x y, x ≠ 18 → ¬ (x = 0 ∧ y = 5) → V.1 x y = W.1 x y := fun x y h1 h2 => (vF x y h1).trans (uF x y h2)
    have v04 : V.1 0 4 = nI (eR b z t) := by rw [vW 0 4 (by omega) (by omega), wF 0 4 (by omega)]; exact n04
    have hX : f_X4_read M 0 = some (nI (eR b z t), V) := by
      unfold f_X4_read
      rw [rf_0_2, e1, cal_s, if_neg ne10, bnd_s, bnd_s, sI_ne (by omega), r2, ← hN, w1]
      show j_X4_read_92 0 W = _
      unfold j_X4_read_92
      rw [rf_0_2, rf_0_1, rf_0_3, bnd_s, wF 4 4 (by omega), nF 4 4 (by omega), r4, ← hU, u05, uF 4 3 (by omega), wF 4 3 (by omega), nF 4 3 (by omega), r3, show (22 : Int32) = nI 22 from rfl, nI_add, f_cpy0 hb xU (by omega) (by rw [ln_18]; omega) (by rw [ln_18]; decide) (by omega), cal_s, ← hV, v04]
    have vhi : ∀ x y, 91 ≤ x → V.1 x y = M.1 x y := fun x y h => by rw [vW x y (by omega) (by omega), wF x y (by omega), nF x y (by omega)]; exact fr x y (by omega)
    obtain ⟨Y, y1, y2, y22, y26, y110, yE, yF⟩ := y_whl (M := V) hb (hy.same (fun y => vhi 111 y (by omega))) ((vhi 91 24 (by omega)).trans hi.yz) hz2 hw
    have nown : ∀ i y x, x < 92 ∨ 109 < x → ¬ own i x y := fun i y x h => by unfold own scl; omega
    have yO : ∀ x y, x < 112 → ¬ (x = 91 ∧ (y = 0 ∨ y = 2 ∨ y = 22 ∨ 26 ≤ y)) → x ≠ 110 → (x < 92 ∨ 109 < x) → Y.1 x y = V.1 x y := fun x y h1 h2 h3 h4 => yF x y h1 h2 h3 (fun i _ => nown i y x h4)
    have vM : ∀ x y, (x < 4 ∨ 18 < x) → ¬ (x = 0 ∧ (y = 4 ∨ y = 5 ∨ y = 7)) → ¬ (19 ≤ x ∧ x < 19 + 6 * eR b z t) → V.1 x y = M.1 x y := fun x y h1 h2 h3 => by
      rw [vW x y (by omega) (by omega), wF x y h3, nF x y (by omega)]
      exact fr x y (by omega)
    refine ⟨_, V, Y, hX, y1, eR b z t, z, t, rd_iv (MX := V) (p := eP z t) (cf := eC b z t) hi hb hrow ht12 (by omega) hg v04 ?_ ?_ (vM 0 6 (by omega) (by omega) (by omega)) (vM 2 1 (by omega) (by omega) (by omega)) (fun y => vM 3 y (by omega) (by omega) (by omega)) (fun k => ?_) (fun i hir => ?_) (fun x y h1 h2 => vM x y (by omega) (by omega) (by omega)) (fun x y hx => yO x y (by omega) (by omega) (by omega) (by omega)) y2 y22 y26 ?_ ?_ (fun k => ?_) (fun k => ?_) (fun i hir => ?_) (fun a k h1 h2 h3 => ?_)⟩
    · rw [vF 0 5 (by omega)]; exact u05
    · rw [vW 0 7 (by omega) (by omega), wF 0 7 (by omega)]; exact n07
    · rw [hV, cp_if]
      by_cases w : k < t
      · rw [if_pos w, if_pos w]
      · rw [if_neg w, if_neg w, uF 18 k (by omega), wF 18 k (by omega), nF 18 k (by omega)]
        exact fr 18 k (by omega)
    · obtain ⟨m, hp, hE⟩ := wE i hir
      refine ⟨m, hp, hE.tr (fun x y h1 h2 => ?_) (fun x y h1 h2 => vW x y (by omega) (by omega))⟩
      rw [nF x y (by omega)]
      exact (fr x y (by omega)).symm
    · rw [yO 91 24 (by omega) (by omega) (by omega) (by omega)]; exact vhi 91 24 (by omega)
    · rw [yO 91 1 (by omega) (by omega) (by omega) (by omega)]; exact vhi 91 1 (by omega)
    · rw [y110 k, vhi 110 k (by omega)]
    · rw [yO 111 k (by omega) (by omega) (by omega) (by omega)]; exact vhi 111 k (by omega)
    · obtain ⟨m, hp, hE⟩ := yE i hir
      refine ⟨m, hp, hE.tr (fun a k ho => ?_) (fun _ _ _ => rfl)⟩
      have h9 : 92 ≤ a ∧ a ≤ 109 := by unfold own scl at ho; omega
      exact (vhi a k (by omega)).symm
    · rw [yF a k (by omega) (by omega) (by omega) h3]
      exact vhi a k (by omega)
  · obtain ⟨A, hA⟩ : ∃ A, A = sI (sI M1 4 7 (nI κ)) 4 8 (nI pl) := ⟨_, rfl⟩
    have a8 : A.1 4 8 = nI pl := by rw [hA, sI_eq]
    have a7 : A.1 4 7 = nI κ := by rw [hA, sI_ne (by omega), sI_eq]
    have aM : ∀ x y, (x < 4 ∨ 17 < x) → A.1 x y = M.1 x y := fun x y h => by rw [hA, sI_ne (by omega), sI_ne (by omega)]; exact fr x y h
    obtain ⟨V, hV⟩ : ∃ V, V = sI A 0 7 (nI pl) := ⟨_, rfl⟩
    have vM : ∀ x y, (x < 4 ∨ 17 < x) → ¬ (x = 0 ∧ y = 7) → V.1 x y = M.1 x y := fun x y h1 h2 => by rw [hV, sI_ne h2]; exact aM x y h1
    have hX : f_X4_read M 0 = some (-10 - nI κ, V) := by
      unfold f_X4_read
      rw [rf_0_2, e1, ← hA, cal_s, if_pos (show (0 : Int32) = 0 from rfl), a8, bnd_s, ← hV, show V.1 4 7 = nI κ by rw [hV, sI_ne (by omega)]; exact a7]
    obtain ⟨Y, y1, y26, yF⟩ := y_flt (M := V) hb (hy.same (fun y => vM 111 y (by omega) (by omega))) ((vM 91 24 (by omega) (by omega)).trans hi.yz) hz2 hf
    have yM : ∀ x y, x < 112 → (x < 4 ∨ 17 < x) → ¬ (x = 0 ∧ y = 7) → ¬ (x = 91 ∧ (y = 0 ∨ 26 ≤ y)) → Y.1 x y = M.1 x y := fun x y h1 h2 h3 h4 => (yF x y h1 h4).trans (vM x y h2 h3)
    refine ⟨_, V, Y, hX, y1, n, z, c, hi.1.congr (fun k hk => yM 91 k (by omega) (by omega) (by omega) (by omega)), hi.2.1.congr (fun a k ha => yM a k (by omega) (by omega) (by omega) (by omega)), fun i hin => (hi.2.2.1 i hin).congr (fun a ha => yM a i (by omega) (by omega) (by omega) (by omega)) (fun p hp => yM 101 _ (by omega) (by omega) (by omega) (by omega)), fun a k hv ho => ?_, fun i k hi12 hk => ?_⟩
    · have hlt := loc_lt hv
      by_cases q91 : a = 91
      · subst q91
        by_cases q26 : k = 26
        · subst q26
          show Y.1 0 7 = _
          rw [y26, yF 0 7 (by omega) (by omega), hV, sI_eq]
        · have hk := vd_91 hv
          have ex : AX Y 91 k = AX M 91 k := by
            rcases (show k = 1 ∨ k = 2 ∨ k = 22 ∨ k = 24 by omega) with e | e | e | e <;> subst e
            · exact yM 0 6 (by omega) (by omega) (by omega) (by omega)
            · exact yM 0 4 (by omega) (by omega) (by omega) (by omega)
            · exact yM 0 5 (by omega) (by omega) (by omega) (by omega)
            · exact yM 2 1 (by omega) (by omega) (by omega) (by omega)
          rw [ex, yM 91 k (by omega) (by omega) (by omega) (by omega)]
          exact hi.hd (by omega)
      · have ha := vd_ge hv
        have hlo := loc_hi hv (by omega)
        have hup : a ≤ 111 := by
          rcases hv with ⟨g, _⟩ | ⟨_, g, _⟩ <;> omega
        have ex : AX Y a k = AX M a k := by
          unfold AX
          rw [yM _ _ (by omega) (by omega) (by omega) (by omega)]
        rw [ex, yM a k (by omega) (by omega) (by omega) (by omega)]
        refine hi.2.2.2.1 a k hv ⟨ho.1, fun q => ?_⟩
        have := ho.2 q
        rwa [yM 92 k (by omega) (by omega) (by omega) (by omega)] at this
    · rw [yM _ _ (by omega) (by omega) (by omega) (by omega)]
      exact hi.xb i k hi12 hk
