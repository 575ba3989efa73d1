/-! WHAT write AND add PUT BEHIND -/
def pof (σ : Nat → Nat → Int32) (f z t : Nat) : Int32 := nI (z + (cat (locB σ) f t).length)
def plc (σ : Nat → Nat → Int32) (f z e : Nat) : Int32 := if e < f then σ 109 e else pof σ f z (e - f)
def bsX (M : Me) (σ : Nat → Nat → Int32) (f z : Nat) : Nat → Me
  | 0 => M
  | t + 1 => sI (bsX M σ f z t) (19 + 6 * (f + t)) 17 (pof σ f z t)
def bsY (M : Me) (σ : Nat → Nat → Int32) (f z : Nat) : Nat → Me
  | 0 => M
  | t + 1 => sI (bsY M σ f z t) 109 (f + t) (pof σ f z t)
theorem bsX_ne {M : Me} {σ : Nat → Nat → Int32} {f z x y : Nat} : ∀ t, (∀ e, f ≤ e → e < f + t → ¬ (x = 19 + 6 * e ∧ y = 17)) → (bsX M σ f z t).1 x y = M.1 x y
  | 0, _ => rfl
  | t + 1, h => by
    show (sI _ _ _ _).1 x y = _
    rw [sI_ne (h (f + t) (by omega) (by omega))]
    exact bsX_ne t (fun e h1 h2 => h e h1 (by omega))
theorem bsY_ne {M : Me} {σ : Nat → Nat → Int32} {f z x y : Nat} : ∀ t, (∀ e, f ≤ e → e < f + t → ¬ (x = 109 ∧ y = e)) → (bsY M σ f z t).1 x y = M.1 x y
  | 0, _ => rfl
  | t + 1, h => by
    show (sI _ _ _ _).1 x y = _
    rw [sI_ne (h (f + t) (by omega) (by omega))]
    exact bsY_ne t (fun e h1 h2 => h e h1 (by omega))
theorem bsX_at {M : Me} {σ : Nat → Nat → Int32} {f z : Nat} : ∀ t e, f ≤ e → e < f + t → (bsX M σ f z t).1 (19 + 6 * e) 17 = pof σ f z (e - f)
  | 0, e, h1, h2 => by omega
  | t + 1, e, h1, h2 => by
    show (sI _ _ _ _).1 _ _ = _
    by_cases q : e = f + t
    · subst q
      rw [sI_eq, Nat.add_sub_cancel_left]
    · rw [sI_ne (by omega)]
      exact bsX_at t e h1 (by omega)
theorem bsY_at {M : Me} {σ : Nat → Nat → Int32} {f z : Nat} : ∀ t e, f ≤ e → e < f + t → (bsY M σ f z t).1 109 e = pof σ f z (e - f)
  | 0, e, h1, h2 => by omega
  | t + 1, e, h1, h2 => by
    show (sI _ _ _ _).1 _ _ = _
    by_cases q : e = f + t
    · subst q
      rw [sI_eq, Nat.add_sub_cancel_left]
    · rw [sI_ne (by omega)]
      exact bsY_at t e h1 (by omega)
theorem bsX_ex {M : Me} {σ : Nat → Nat → Int32} {f z i : Nat} (t : Nat) (h : EX M σ i) : EX (bsX M σ f z t) σ i := h.stab (fun x y h1 h2 h3 => bsX_ne t (fun e _ _ q => by omega))
theorem bsY_ey {M : Me} {σ : Nat → Nat → Int32} {f z : Nat} (t : Nat) (h : EY M σ) : EY (bsY M σ f z t) σ := fun a k h1 h2 => (bsY_ne t (fun e _ _ q => by omega)).trans (h a k h1 h2)
def cenR (σ : Nat → Nat → Int32) (f z : Nat) (e : Nat) : List Nat := cenB σ e (plc σ f z e)
def zC (σ : Nat → Nat → Int32) (f n z : Nat) : Nat := z + (cat (locB σ) f (n - f)).length
def zE (σ : Nat → Nat → Int32) (f n z : Nat) : Nat := zC σ f n z + (cat (cenR σ f z) 0 n).length
def allB (σ : Nat → Nat → Int32) (f n c z : Nat) : List Nat := cat (locB σ) f (n - f) ++ (cat (cenR σ f z) 0 n ++ endB σ n c (zC σ f n z) (zE σ f n z))
theorem all_len (σ : Nat → Nat → Int32) (f n c z : Nat) : (allB σ f n c z).length = 22 + c + lenS σ f n := by
  unfold allB
  rw [List.length_append, List.length_append, end_len, lenS_cat (pl := plc σ f z) n]
  show _ + ((cat (cenR σ f z) 0 n).length + _) = 22 + c + (_ + (cat (cenR σ f z) 0 n).length)
  omega
theorem f_putX {M : Me} {σ : Nat → Nat → Int32} {n c f z : Nat} (hn : n ≤ 12) (hcl : c ≤ 12) (hf : f ≤ n) (hX : ∀ i, i < n → EX M σ i) (hE : ∀ i, i < n → EOK σ i) (hb : Yb σ) (h17 : ∀ i, i < n → M.1 (19 + 6 * i) 17 = σ 109 i) (h4 : M.1 0 4 = nI n) (h5 : M.1 0 5 = nI c) (h18 : ∀ k, k < 12 → M.1 18 k &&& 255 = σ 110 k) (hz : M.1 2 1 = nI z) (hl : z + (allB σ f n c z).length ≤ 2000) : f_X4_putFrom M 0 (nI f) = some (nI (z + (allB σ f n c z).length), ap 3 2 1 bI (bsX M σ f z (n - f)) z (allB σ f n c z)) := by
  have hlen : (allB σ f n c z).length = (cat (locB σ) f (n - f)).length + ((cat (cenR σ f z) 0 n).length + (endB σ n c (zC σ f n z) (zE σ f n z)).length) := by
    unfold allB
    rw [List.length_append, List.length_append]
  have hb0 : ∀ t x y, x < 19 → (bsX M σ f z t).1 x y = M.1 x y := fun t x y hx => bsX_ne t (fun e _ _ q => by omega)
  unfold f_X4_putFrom l_X4_putFrom_2
  refine lp_run _ (fun t => (nI (f + t), ap 3 2 1 bI (bsX M σ f z t) z (cat (locB σ) f t))) (n - f) _ (fun kb t ht => ?_) (fun kb => ?_) FU 0 (by omega) (by unfold FU; omega)
  · show g_X4_putFrom_2 _ kb 0 (nI (f + t)) (ap 3 2 1 bI (bsX M σ f z t) z (cat (locB σ) f t)) = kb (nI (f + t + 1), ap 3 2 1 bI (sI (bsX M σ f z t) (19 + 6 * (f + t)) 17 (pof σ f z t)) z (cat (locB σ) f t ++ locB σ (f + t)))
    have h1 := cat_le (locB σ) f (show t + 1 ≤ n - f by omega)
    have h2 : (cat (locB σ) f (t + 1)).length = (cat (locB σ) f t).length + (locB σ (f + t)).length := by
      show (cat (locB σ) f t ++ locB σ (f + t)).length = _
      rw [List.length_append]
    have hc0 : (bsX M σ f z t).1 2 1 = nI z := by rw [hb0 t 2 1 (by omega)]; exact hz
    have hA := ap_cnt (r := 3) (p := 2) (q := 1) (f := bI) (by decide) (cat (locB σ) f t) (bsX M σ f z t) z hc0
    have hEA : EX (ap 3 2 1 bI (bsX M σ f z t) z (cat (locB σ) f t)) σ (f + t) := st_EX σ (f + t) _ _ _ (bsX_ex t (hX (f + t) (by omega)))
    unfold g_X4_putFrom_2
    rw [ap_ne _ _ _ (by omega) (by omega), hb0 t 0 4 (by omega), h4, if_neg (nI_ge (show f + t < n by omega) (by omega)), rf_0_0, rf_0_1, chk_n _ (show f + t < ln 1 by rw [ln_1]; omega) (by decide), nI_clamp (by omega), rf_E, p_locX (hE (f + t) (by omega)) hb (by omega) hEA hA (by omega), cal_s, bndV_s, nI_1, ap_sI _ _ _ (by omega) (by omega), ap_app]
    rfl
  · show g_X4_putFrom_2 _ kb 0 (nI (f + (n - f))) (ap 3 2 1 bI (bsX M σ f z (n - f)) z (cat (locB σ) f (n - f))) = _
    obtain ⟨B, hB⟩ : ∃ B, B = bsX M σ f z (n - f) := ⟨_, rfl⟩
    have hBX : ∀ i, i < n → EX B σ i := fun i hi => by rw [hB]; exact bsX_ex _ (hX i hi)
    have hB17 : ∀ i, i < n → B.1 (19 + 6 * i) 17 = plc σ f z i := by
      intro i hi
      unfold plc
      rw [hB]
      by_cases q : i < f
      · rw [if_pos q, bsX_ne _ (fun e h1 h2 q2 => by omega)]
        exact h17 i hi
      · rw [if_neg q]
        exact bsX_at _ i (by omega) (by omega)
    have hB0 : ∀ x y, x < 19 → B.1 x y = M.1 x y := fun x y hx => by rw [hB]; exact hb0 _ x y hx
    rw [← hB]
    have hBz : B.1 2 1 = nI z := by rw [hB0 2 1 (by omega)]; exact hz
    unfold g_X4_putFrom_2
    rw [ap_ne _ _ _ (by omega) (by omega), hB0 0 4 (by omega), h4, if_pos (nI_le (show n ≤ f + (n - f) by omega) (by omega)), rf_0_1]
    show bndV ((ap 3 2 1 bI B z (cat (locB σ) f (n - f))).1 2 1) _ = _
    rw [ap_cnt (r := 3) (f := bI) (by decide) _ _ _ hBz, bndV_s]
    show l_X4_putFrom_39 (fun v12 M13 => cal (f_X4_putEnd M13 0 (nI (zC σ f n z))) (fun _ M15 => some ((M15.1 2 1), M15))) 0 (nI (zC σ f n z)) 0 _ = _
    unfold l_X4_putFrom_39
    have hl1 : zC σ f n z = z + (cat (locB σ) f (n - f)).length := rfl
    have hl2 : zE σ f n z = zC σ f n z + (cat (cenR σ f z) 0 n).length := rfl
    obtain ⟨A, hA⟩ : ∃ A, A = ap 3 2 1 bI B z (cat (locB σ) f (n - f)) := ⟨_, rfl⟩
    have hAz : A.1 2 1 = nI (zC σ f n z) := by rw [hA]; exact ap_cnt (by decide) _ _ _ hBz
    have hA0 : ∀ x y, x ≠ 2 → x ≠ 3 → A.1 x y = B.1 x y := fun x y h1 h2 => by rw [hA]; exact ap_ne _ _ _ (by omega) (by omega)
    rw [← hA]
    refine lp_run _ (fun e => (nI e, ap 3 2 1 bI A (zC σ f n z) (cat (cenR σ f z) 0 e))) n _ (fun kb e he => ?_) (fun kb => ?_) FU 0 (by omega) (by unfold FU; omega)
    · show g_X4_putFrom_39 _ kb 0 (nI (zC σ f n z)) (nI e) (ap 3 2 1 bI A (zC σ f n z) (cat (cenR σ f z) 0 e)) = kb (nI (e + 1), ap 3 2 1 bI A (zC σ f n z) (cat (cenR σ f z) 0 e ++ cenR σ f z (0 + e)))
      have h1 := cat_le (cenR σ f z) 0 (show e + 1 ≤ n by omega)
      have h2 : (cat (cenR σ f z) 0 (e + 1)).length = (cat (cenR σ f z) 0 e).length + (cenR σ f z e).length := by
        show (cat (cenR σ f z) 0 e ++ cenR σ f z (0 + e)).length = _
        rw [List.length_append, Nat.zero_add]
      have hEA : EX (ap 3 2 1 bI A (zC σ f n z) (cat (cenR σ f z) 0 e)) σ e := st_EX σ e _ _ _ (by rw [hA]; exact st_EX σ e _ _ _ (hBX e he))
      have hcA := ap_cnt (r := 3) (p := 2) (q := 1) (f := bI) (by decide) (cat (cenR σ f z) 0 e) A (zC σ f n z) hAz
      have hpA : (ap 3 2 1 bI A (zC σ f n z) (cat (cenR σ f z) 0 e)).1 (19 + 6 * e) 17 = plc σ f z e := by
        rw [ap_ne _ _ _ (by omega) (by omega), hA0 _ _ (by omega) (by omega)]
        exact hB17 e he
      have hput := p_cenX (v := plc σ f z e) (hE e he) hb (show e < 12 by omega) _ _ ⟨hEA, hpA⟩ hcA (by have : (cenR σ f z e).length = (cenB σ e (plc σ f z e)).length := rfl; omega)
      have hput' : f_X0_putCentre (ap 3 2 1 bI A (zC σ f n z) (cat (cenR σ f z) 0 e)) (19 + 6 * e) 2 = _ := hput
      unfold g_X4_putFrom_39
      rw [ap_ne _ _ _ (by omega) (by omega), hA0 _ _ (by omega) (by omega), hB0 0 4 (by omega), h4, if_neg (nI_ge he (by omega)), rf_0_0, rf_0_1, chk_n _ (show e < ln 1 by rw [ln_1]; omega) (by decide), nI_clamp (by omega), rf_E, hput', cal_s, bndV_s, nI_1, ap_app, Nat.zero_add]
      rfl
    · show g_X4_putFrom_39 _ kb 0 (nI (zC σ f n z)) (nI n) (ap 3 2 1 bI A (zC σ f n z) (cat (cenR σ f z) 0 n)) = _
      have hcA := ap_cnt (r := 3) (p := 2) (q := 1) (f := bI) (by decide) (cat (cenR σ f z) 0 n) A (zC σ f n z) hAz
      have hrd : ∀ x y, x < 19 → x ≠ 2 → x ≠ 3 → (ap 3 2 1 bI A (zC σ f n z) (cat (cenR σ f z) 0 n)).1 x y = M.1 x y := fun x y h0 h1 h2 => by
        rw [ap_ne _ _ _ (by omega) (by omega), hA0 _ _ h1 h2, hB0 x y h0]
      have hend := p_endX (zc := zC σ f n z) (ze := zE σ f n z) hb hcl ((hrd 0 4 (by omega) (by omega) (by omega)).trans h4) ((hrd 0 5 (by omega) (by omega) (by omega)).trans h5) (fun k hk => by rw [hrd 18 k (by omega) (by omega) (by omega)]; exact h18 k hk) hcA (by omega) (by omega)
      unfold g_X4_putFrom_39
      rw [hrd 0 4 (by omega) (by omega) (by omega), h4, if_pos (nI_le (Nat.le_refl n) (by omega))]
      show cal (f_X4_putEnd (ap 3 2 1 bI A (zC σ f n z) (cat (cenR σ f z) 0 n)) 0 (nI (zC σ f n z))) (fun _ M15 => some ((M15.1 2 1), M15)) = _
      rw [hend, cal_s]
      have e1 : ap 3 2 1 bI (ap 3 2 1 bI A (zC σ f n z) (cat (cenR σ f z) 0 n)) (zE σ f n z) (endB σ n c (zC σ f n z) (zE σ f n z)) = ap 3 2 1 bI B z (allB σ f n c z) := by
        unfold allB
        rw [ap_app, ap_app, ← hA]
        rfl
      rw [e1, ap_cnt (by decide) _ _ _ hBz]
