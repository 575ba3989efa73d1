theorem f_goesY {M : Me} {σ : Nat → Nat → Int32} {n c f z : Nat} (hn : n ≤ 12) (hcl : c ≤ 12) (hf : f ≤ n) (hzl : z ≤ 2000) (hY : EY M σ) (hE : ∀ i, i < n → EOK σ i) (hb : Yb σ) (h109 : ∀ k, k < 12 → M.1 109 k = σ 109 k) (h2 : M.1 91 2 = nI n) (h22 : M.1 91 22 = nI c) (h110 : ∀ k, M.1 110 k = σ 110 k) (hnb : ¬ bare σ n) : f_X5_goes M 91 (nI f) (nI z) = if z + (allB σ f n c z).length ≤ 2000 then some (nI (z + (allB σ f n c z).length), sI (ap 111 91 25 nI (bsY (sI M 91 25 (nI z)) σ f z (n - f)) z (allB σ f n c z)) 91 24 (nI (z + (allB σ f n c z).length))) else some (-5, M) := by
  have hL := lenS_le (f := f) hE n (Nat.le_refl n)
  have hal := all_len σ f n c z
  unfold f_X5_goes
  rw [(f_barY hn hY h2).2 hnb, cal_s, if_pos rfl, h22, show (22 : Int32) = nI 22 from rfl, nI_add, nI_add, bndV_s, l_lfY hn hcl hf hY hE h2]
  rcases Nat.lt_or_ge 2000 (z + (allB σ f n c z).length) with hl | hl
  · rw [if_neg (show ¬ z + (allB σ f n c z).length ≤ 2000 by omega), if_neg (show ¬ nI (z + 22 + c + lenS σ f n) ≤ (2000 : Int32) from nI_ge (a := 2000) (by omega) (by omega))]
  rw [if_pos hl, if_pos (show nI (z + 22 + c + lenS σ f n) ≤ (2000 : Int32) from nI_le (b := 2000) (by omega) (by decide)), bnd_s]
  obtain ⟨N, hN⟩ : ∃ N, N = sI M 91 25 (nI z) := ⟨_, rfl⟩
  rw [← hN]
  have hNY : EY N σ := by rw [hN]; exact hY.up (by omega)
  have hNz : N.1 91 25 = nI z := by rw [hN, sI_eq]
  have hNo : ∀ x y, ¬ (x = 91 ∧ y = 25) → N.1 x y = M.1 x y := fun x y h => by rw [hN, sI_ne h]
  have hlen : (allB σ f n c z).length = (cat (locB σ) f (n - f)).length + ((cat (cenR σ f z) 0 n).length + (endB σ n c (zC σ f n z) (zE σ f n z)).length) := by
    unfold allB
    rw [List.length_append, List.length_append]
  have hb0 : ∀ t x y, x ≠ 109 → (bsY N σ f z t).1 x y = N.1 x y := fun t x y hx => bsY_ne t (fun e _ _ q => by omega)
  unfold l_X5_goes_85
  refine lp_run _ (fun t => (nI (f + t), ap 111 91 25 nI (bsY N σ f z t) z (cat (locB σ) f t))) (n - f) _ (fun kb t ht => ?_) (fun kb => ?_) FU 0 (by omega) (by unfold FU; omega)
  · show g_X5_goes_85 _ kb 91 (nI (f + t)) (ap 111 91 25 nI (bsY N σ f z t) z (cat (locB σ) f t)) = kb (nI (f + t + 1), ap 111 91 25 nI (sI (bsY N σ f z t) 109 (f + t) (pof σ f z t)) z (cat (locB σ) f t ++ locB σ (f + t)))
    have h1 := cat_le (locB σ) f (show t + 1 ≤ n - f by omega)
    have h3 : (cat (locB σ) f (t + 1)).length = (cat (locB σ) f t).length + (locB σ (f + t)).length := by
      show (cat (locB σ) f t ++ locB σ (f + t)).length = _
      rw [List.length_append]
    have hc0 : (bsY N σ f z t).1 91 25 = nI z := by rw [hb0 t 91 25 (by omega)]; exact hNz
    have hA := ap_cnt (r := 111) (p := 91) (q := 25) (f := nI) (by decide) (cat (locB σ) f t) (bsY N σ f z t) z hc0
    have hEA : EY (sI (ap 111 91 25 nI (bsY N σ f z t) z (cat (locB σ) f t)) 109 (f + t) (pof σ f z t)) σ := (st_EY σ _ _ _ (bsY_ey t hNY)).up (by omega)
    have hput : f_X5_putLocal (sI (ap 111 91 25 nI (bsY N σ f z t) z (cat (locB σ) f t)) 109 (f + t) (pof σ f z t)) 91 (nI (f + t)) = _ := p_locY (hE (f + t) (by omega)) hb (by omega) _ (z + (cat (locB σ) f t).length) hEA (by rw [sI_ne (by omega)]; exact hA) (by omega)
    unfold g_X5_goes_85
    rw [hA]
    show (if (ap 111 91 25 nI (bsY N σ f z t) z (cat (locB σ) f t)).1 91 2 ≤ _ then _ else chk (nI (f + t)) (ln (rf 91 20)) (bnd (sI _ (rf 91 20) (nI (f + t)).toNatClampNeg (pof σ f z t)) _)) = _
    rw [ap_ne _ _ _ (by omega) (by omega), hb0 t 91 2 (by omega), hNo 91 2 (by omega), h2, if_neg (nI_ge (show f + t < n by omega) (by omega)), rf_91_20, chk_n _ (show f + t < ln 109 by rw [ln_109]; omega) (by decide), nI_clamp (by omega), bnd_s, hput, cal_s, bndV_s, nI_1, ap_sI _ _ _ (by omega) (by omega), ap_app]
  · show g_X5_goes_85 _ kb 91 (nI (f + (n - f))) (ap 111 91 25 nI (bsY N σ f z (n - f)) z (cat (locB σ) f (n - f))) = _
    obtain ⟨B, hB⟩ : ∃ B, B = bsY N σ f z (n - f) := ⟨_, rfl⟩
    have hBY : EY B σ := by rw [hB]; exact bsY_ey _ hNY
    have hB0 : ∀ x y, x ≠ 109 → B.1 x y = N.1 x y := fun x y hx => by rw [hB]; exact hb0 _ x y hx
    have hBp : ∀ k, k < n → B.1 109 k = plc σ f z k := by
      intro k hk
      unfold plc
      rw [hB]
      by_cases q : k < f
      · rw [if_pos q, bsY_ne _ (fun e h1 h2 q2 => by omega), hNo 109 k (by omega)]
        exact h109 k (by omega)
      · rw [if_neg q]
        exact bsY_at _ k (by omega) (by omega)
    rw [← hB]
    have hBz : B.1 91 25 = nI z := by rw [hB0 91 25 (by omega)]; exact hNz
    obtain ⟨A, hA⟩ : ∃ A, A = ap 111 91 25 nI B z (cat (locB σ) f (n - f)) := ⟨_, rfl⟩
    have hAz : A.1 91 25 = nI (zC σ f n z) := by rw [hA]; exact ap_cnt (by decide) _ _ _ hBz
    have hCB : CY σ (fun k => B.1 109 k) n c B := ⟨hBY, fun k _ => rfl, by rw [hB0 91 2 (by omega), hNo 91 2 (by omega)]; exact h2, by rw [hB0 91 22 (by omega), hNo 91 22 (by omega)]; exact h22, fun k => by rw [hB0 110 k (by omega), hNo 110 k (by omega)]; exact h110 k⟩
    have hCA : CY σ (fun k => B.1 109 k) n c A := by rw [hA]; exact st_CY σ _ n c _ _ _ hCB
    rw [← hA]
    unfold g_X5_goes_85
    rw [hCA.2.2.1, if_pos (nI_le (show n ≤ f + (n - f) by omega) (by omega))]
    show bndV (A.1 91 25) _ = _
    rw [hAz, bndV_s]
    have hl1 : zC σ f n z = z + (cat (locB σ) f (n - f)).length := rfl
    have hl2 : zE σ f n z = zC σ f n z + (cat (cenR σ f z) 0 n).length := rfl
    have hcen : ∀ kx : Int32 → Me → Option (Int32 × Me), CP (CY σ (fun k => B.1 109 k) n c) (fun M => l_X5_goes_126 kx 91 (nI (zC σ f n z)) 0 M) (fun M => kx (nI n) M) (cat (cenR σ f z) 0 n) := by
      intro kx
      unfold l_X5_goes_126
      refine CP.loop (C := CY σ (fun k => B.1 109 k) n c) _ 0 n (by omega) (st_CY σ _ n c) (fun kb e _ he => ?_) (fun kb M hM => ?_)
      · show CP _ (fun M => g_X5_goes_126 kx kb 91 (nI (zC σ f n z)) (nI e) M) _ (cenB σ e (plc σ f z e))
        rw [← hBp e (by omega)]
        unfold g_X5_goes_126
        refine CP.iteF (fun M hC => by rw [hC.2.2.1]; exact nI_ge (by omega) (by omega)) ?_
        exact CP.fin (st_CY σ _ n c) (p_cenY (pl := fun k => B.1 109 k) (hE e (by omega)) hb (by omega)) (fun M hC => by show bndV (nI e + 1) _ = _; rw [bndV_s, nI_1])
      · show g_X5_goes_126 kx kb 91 (nI (zC σ f n z)) (nI (0 + n)) M = _
        unfold g_X5_goes_126
        rw [hM.2.2.1, Nat.zero_add, if_pos (nI_le (Nat.le_refl n) (by omega))]
    refine ((hcen _) A (zC σ f n z) hCA hAz (by omega)).trans ?_
    obtain ⟨D, hD⟩ : ∃ D, D = ap 111 91 25 nI A (zC σ f n z) (cat (cenR σ f z) 0 n) := ⟨_, rfl⟩
    have hDz : D.1 91 25 = nI (zE σ f n z) := by rw [hD]; exact ap_cnt (by decide) _ _ _ hAz
    have hCD : CY σ (fun k => B.1 109 k) n c D := by rw [hD]; exact st_CY σ _ n c _ _ _ hCA
    rw [← hD]
    show bndV (D.1 91 25) _ = _
    rw [hDz, bndV_s, pk_sub (show zC σ f n z ≤ zE σ f n z by omega)]
    have hend : CP (CY σ (fun k => B.1 109 k) n c) (fun M39 => cal (f_X5_put M39 91 (101010256 : Int64) (4 : Int32)) (fun _ M42 => cal (f_X5_put M42 91 (0 : Int64) (4 : Int32)) (fun _ M44 => cal (f_X5_put M44 91 (((M44.1 91 2)).toInt64) (2 : Int32)) (fun _ M46 => cal (f_X5_put M46 91 (((M46.1 91 2)).toInt64) (2 : Int32)) (fun _ M48 => cal (f_X5_put M48 91 (nI (zE σ f n z - zC σ f n z)).toInt64 (4 : Int32)) (fun _ M50 => cal (f_X5_put M50 91 (nI (zC σ f n z)).toInt64 (4 : Int32)) (fun _ M52 => cal (f_X5_put M52 91 (((M52.1 91 22)).toInt64) (2 : Int32)) (fun _ M54 => l_X5_goes_275 (fun v59 M60 => bnd (sI M60 91 24 (M60.1 91 25)) (fun M61 => some ((M61.1 91 24), M61))) 91 (0 : Int32) M54)))))))) (fun M60 => bnd (sI M60 91 24 (M60.1 91 25)) (fun M61 => some ((M61.1 91 24), M61))) (endB σ n c (zC σ f n z) (zE σ f n z)) := by
      unfold endB
      refine CP.seq (st_CY σ _ n c) (CP.nY (n := 4) (by decide) (fun M hC => rfl)) ?_
      refine CP.seq (st_CY σ _ n c) (CP.nY (n := 4) (by decide) (fun M hC => rfl)) ?_
      refine CP.seq (st_CY σ _ n c) (CP.nY (n := 2) (by decide) (fun M hC => by rw [hC.2.2.1])) ?_
      refine CP.seq (st_CY σ _ n c) (CP.nY (n := 2) (by decide) (fun M hC => by rw [hC.2.2.1])) ?_
      refine CP.seq (st_CY σ _ n c) (CP.nY (n := 4) (by decide) (fun M hC => rfl)) ?_
      refine CP.seq (st_CY σ _ n c) (CP.nY (n := 4) (by decide) (fun M hC => rfl)) ?_
      refine CP.seq (st_CY σ _ n c) (CP.nY (n := 2) (by decide) (fun M hC => by rw [hC.2.2.2.1])) ?_
      exact p_cmtY hb hcl
    refine (hend D (zE σ f n z) hCD hDz (by omega)).trans ?_
    have e1 : ap 111 91 25 nI D (zE σ f n z) (endB σ n c (zC σ f n z) (zE σ f n z)) = ap 111 91 25 nI B z (allB σ f n c z) := by
      unfold allB
      rw [ap_app, ap_app, ← hA, hD]
      rfl
    rw [e1]
    show bnd (sI (ap 111 91 25 nI B z (allB σ f n c z)) 91 24 ((ap 111 91 25 nI B z (allB σ f n c z)).1 91 25)) (fun M61 => some ((M61.1 91 24), M61)) = _
    rw [bnd_s, sI_eq, ap_cnt (by decide) _ _ _ hBz]
/-! the bytes are bytes -/
def B8 (l : List Nat) : Prop := ∀ b ∈ l, b < 256
theorem B8.app {l1 l2 : List Nat} (h1 : B8 l1) (h2 : B8 l2) : B8 (l1 ++ l2) := fun b hb => by
  rcases List.mem_append.mp hb with q | q
  · exact h1 b q
  · exact h2 b q
theorem B8.nil : B8 [] := fun b hb => by cases hb
theorem b8_lb (v : Int64) (n : Nat) : B8 (lb v n) := ml_lt (byv_lt v) n
theorem b8_ml {g : Nat → Nat} (h : ∀ k, g k < 256) (n : Nat) : B8 (ml g n) := ml_lt h n
theorem b8_ss (σ : Nat → Nat → Int32) (i : Nat) : B8 (ssB σ i) := (b8_lb _ _).app ((b8_lb _ _).app (b8_lb _ _))
theorem b8_kind (σ : Nat → Nat → Int32) (i : Nat) : B8 (kindB σ i) := (b8_lb _ _).app ((b8_lb _ _).app ((b8_lb _ _).app ((b8_lb _ _).app (b8_lb _ _))))
theorem b8_len (σ : Nat → Nat → Int32) (i : Nat) : B8 (lenB σ i) := (b8_lb _ _).app (b8_lb _ _)
theorem b8_part (σ : Nat → Nat → Int32) (i : Nat) : ∀ p, B8 (partB σ i p)
  | 0 => B8.nil
  | p + 1 => (b8_part σ i p).app ((b8_lb _ _).app ((b8_lb _ _).app (b8_ml (fun k => nb_lt _ _ _) _)))
theorem b8_ne (σ : Nat → Nat → Int32) (i : Nat) : B8 (neB σ i) := by
  refine (b8_ml (fun k => nb_lt _ _ _) _).app (B8.app ?_ (b8_part σ i _))
  unfold wideB
  by_cases q : σ 93 i = 2
  · rw [if_pos q]; exact (b8_lb _ _).app ((b8_lb _ _).app ((b8_lb _ _).app (b8_lb _ _)))
  · rw [if_neg q]; exact B8.nil
theorem b8_loc (σ : Nat → Nat → Int32) (i : Nat) : B8 (locB σ i) := by
  refine (b8_lb _ _).app ((b8_kind σ i).app (B8.app ?_ ((b8_len σ i).app ((b8_ne σ i).app (B8.app (b8_ml (fun k => nb_lt _ _ _) _) ?_)))))
  · unfold bareB
    by_cases q : σ 93 i = 1
    · rw [if_pos q]; exact (b8_lb _ _).app (b8_lb _ _)
    · rw [if_neg q]; exact b8_ss σ i
  · unfold behB
    by_cases q : σ 93 i = 1
    · rw [if_pos q]; exact (b8_lb _ _).app (b8_ss σ i)
    · rw [if_neg q]; exact B8.nil
theorem b8_cen (σ : Nat → Nat → Int32) (i : Nat) (v : Int32) : B8 (cenB σ i v) := (b8_lb _ _).app ((b8_lb _ _).app ((b8_kind σ i).app ((b8_ss σ i).app ((b8_len σ i).app ((b8_lb _ _).app ((b8_lb _ _).app ((b8_lb _ _).app (b8_ne σ i))))))))
theorem b8_cat {L : Nat → List Nat} {j0 : Nat} (h : ∀ j, B8 (L j)) : ∀ t, B8 (cat L j0 t)
  | 0 => B8.nil
  | t + 1 => (b8_cat h t).app (h _)
theorem b8_all (σ : Nat → Nat → Int32) (f n c z : Nat) : B8 (allB σ f n c z) := (b8_cat (b8_loc σ) _).app ((b8_cat (fun j => b8_cen σ j _) _).app ((b8_lb _ _).app ((b8_lb _ _).app ((b8_lb _ _).app ((b8_lb _ _).app ((b8_lb _ _).app ((b8_lb _ _).app ((b8_lb _ _).app (b8_ml (fun k => nb_lt _ _ _) _)))))))))
theorem B8.getD {l : List Nat} (h : B8 l) (j : Nat) : l.getD j 0 < 256 := by
  induction l generalizing j with
  | nil => exact Nat.zero_lt_succ _
  | cons b t ih =>
    cases j with
    | zero => exact h b List.mem_cons_self
    | succ j => exact ih (fun b hb => h b (List.mem_cons_of_mem _ hb)) j
