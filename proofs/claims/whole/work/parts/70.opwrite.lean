theorem loc_free {a k : Nat} (hv : vd a k) (h1 : ¬ (a = 91 ∧ k = 24)) (h2 : a ≠ 111) (h3 : a ≠ 109) : ¬ ((loc a k).1 = 2 ∧ (loc a k).2 = 1) ∧ (loc a k).1 ≠ 3 ∧ ∀ e, e < 12 → ¬ ((loc a k).1 = 19 + 6 * e ∧ (loc a k).2 = 17) := by
  have hu := unl_loc hv
  refine ⟨fun q => ?_, fun q => ?_, fun e he q => ?_⟩
  · rw [q.1, q.2] at hu
    have e1 : (91, 24) = (a, k) := hu
    exact h1 ⟨(congrArg Prod.fst e1).symm, (congrArg Prod.snd e1).symm⟩
  · rw [q] at hu
    have e1 : (111, (loc a k).2) = (a, k) := hu
    exact h2 (congrArg Prod.fst e1).symm
  · rw [q.1, q.2] at hu
    have e2 : unl (19 + 6 * e) 17 = (109, e) := by
      unfold unl
      rw [if_neg (by omega), if_neg (by omega), if_neg (by omega), if_neg (by omega), if_pos (by omega), if_neg (by decide), if_neg (by decide), if_neg (by decide), if_neg (by decide), if_neg (by decide), if_neg (by decide), if_neg (by decide), if_neg (by decide), if_neg (by decide), if_neg (by decide), if_neg (by decide), if_neg (by decide), show (19 + 6 * e - 19) / 6 = e by omega]
    rw [e2] at hu
    exact h3 (congrArg Prod.fst hu).symm
/-- what stands behind write or add on both sides -/
theorem goes_iv {M M1 M2 : Me} {n z0 c f z T : Nat} {L : List Nat} (hi : IV M n z0 c) (hf : f ≤ n) (hT : T = z + L.length) (hT2 : T ≤ 2000) (hL : B8 L) (pf : Nat → Nat) (hpf : ∀ e, pf e ≤ 2000)
    (x1 : M1.1 2 1 = nI T) (x2 : ∀ j, j < L.length → M1.1 3 (z + j) = bI (L.getD j 0)) (x3 : ∀ e, f ≤ e → e < n → M1.1 (19 + 6 * e) 17 = nI (pf e)) (x4 : ∀ x y, ¬ (x = 2 ∧ y = 1) → ¬ (x = 3 ∧ z ≤ y ∧ y < T) → ¬ (∃ e, f ≤ e ∧ e < n ∧ x = 19 + 6 * e ∧ y = 17) → M1.1 x y = M.1 x y)
    (y0 : ∀ x y, x < 91 → M2.1 x y = M1.1 x y) (y1 : M2.1 91 24 = nI T) (y2 : ∀ j, j < L.length → M2.1 111 (z + j) = nI (L.getD j 0)) (y3 : ∀ e, f ≤ e → e < n → M2.1 109 e = nI (pf e)) (y4 : ∀ x y, yr x y → ¬ (x = 91 ∧ y = 24) → ¬ (x = 111 ∧ z ≤ y ∧ y < T) → ¬ (∃ e, f ≤ e ∧ e < n ∧ x = 109 ∧ y = e) → M2.1 x y = M1.1 x y) : IV M2 n T c := by
  have hn := hi.1.1
  have s1 : ∀ x y, yr x y → ¬ (x = 91 ∧ y = 24) → ¬ (x = 111 ∧ z ≤ y ∧ y < T) → ¬ (∃ e, f ≤ e ∧ e < n ∧ x = 109 ∧ y = e) → M2.1 x y = M.1 x y := fun x y h1 h2 h3 h4 => (y4 x y h1 h2 h3 h4).trans (x4 x y (by have := h1.1; omega) (by have := h1.1; omega) (fun ⟨e, _, _, q, _⟩ => by have := h1.1; omega))
  have s2 : ∀ a k, 92 ≤ a → a ≤ 110 → a ≠ 109 → M2.1 a k = M.1 a k := fun a k h1 h2 h3 => s1 a k ⟨by omega, by omega, by omega⟩ (by omega) (by omega) (fun ⟨e, _, _, q, _⟩ => by omega)
  have s3 : ∀ k, (k = 1 ∨ k = 2 ∨ k = 22 ∨ k = 26) → M2.1 91 k = M.1 91 k := fun k hk => s1 91 k ⟨by omega, by omega, by omega⟩ (by omega) (by omega) (fun ⟨e, _, _, q, _⟩ => by omega)
  have hby : ∀ k, k < 2000 → isB (M2.1 111 k) := by
    intro k hk
    by_cases q : z ≤ k ∧ k < T
    · have := y2 (k - z) (by omega)
      rw [show z + (k - z) = k by omega] at this
      rw [this]
      exact ⟨_, hL.getD _, rfl⟩
    · rw [s1 111 k ⟨by omega, by omega, by omega⟩ (by omega) (by omega) (fun ⟨e, _, _, q, _⟩ => by omega)]
      exact hi.2.1.2.2.2.2.1 k hk
  refine ⟨⟨hn, hT2, hi.1.2.2.1, by rw [s3 2 (by omega)]; exact hi.yn, y1, by rw [s3 22 (by omega)]; exact hi.yc⟩, ⟨fun k hk => ?_, fun k hk => ?_, fun k hk => ?_, fun k hk => ?_, hby, fun k h1 h2 => ?_⟩, fun i hin => ?_, fun a k hv ho => ?_, fun i k hi1 hk => ?_⟩
  · rw [s2 94 k (by omega) (by omega) (by omega)]; exact hi.2.1.1 k hk
  · rw [s2 102 k (by omega) (by omega) (by omega)]; exact hi.2.1.2.1 k hk
  · rw [s2 105 k (by omega) (by omega) (by omega)]; exact hi.2.1.2.2.1 k hk
  · rw [s2 110 k (by omega) (by omega) (by omega)]; exact hi.2.1.2.2.2.1 k hk
  · rw [s1 111 k ⟨by omega, by omega, by omega⟩ (by omega) (by omega) (fun ⟨e, _, _, q, _⟩ => by omega)]
    exact hi.2.1.2.2.2.2.2 k h1 h2
  · obtain ⟨nl, dl, pc, g1, g2, g3, g4, g5, g6, g7, g8, g9, g10, g11, g12, g13, g14⟩ := hi.2.2.1 i hin
    refine ⟨nl, dl, pc, g1, g2, g3, g4, ?_⟩
    rw [s2 95 i (by omega) (by omega) (by omega), s2 104 i (by omega) (by omega) (by omega), s2 99 i (by omega) (by omega) (by omega), s2 92 i (by omega) (by omega) (by omega), s2 93 i (by omega) (by omega) (by omega), s2 103 i (by omega) (by omega) (by omega), s2 108 i (by omega) (by omega) (by omega)]
    refine ⟨g5, g6, g7, g8, g9, g10, g11, g12, ?_, fun p hp => ?_⟩
    · by_cases q : f ≤ i
      · rw [y3 i q hin]
        refine Or.inr ?_
        have := hpf i
        exact nI_le (a := 0) (by omega) (by omega)
      · rw [s1 109 i ⟨by omega, by omega, by omega⟩ (by omega) (by omega) (fun ⟨e, _, _, _, q2⟩ => by omega)]
        exact g13
    · rw [s2 101 _ (by omega) (by omega) (by omega)]
      exact g14 p hp
  · have hlt := loc_lt hv
    have eX : ∀ x y, x < 91 → ¬ (x = 2 ∧ y = 1) → ¬ (x = 3 ∧ z ≤ y ∧ y < T) → ¬ (∃ e, f ≤ e ∧ e < n ∧ x = 19 + 6 * e ∧ y = 17) → M2.1 x y = M.1 x y := fun x y h0 h1 h2 h3 => (y0 x y h0).trans (x4 x y h1 h2 h3)
    have ho2 : ob M.1 n a k := ⟨ho.1, fun q => by have := ho.2 q; rwa [s2 92 k (by omega) (by omega) (by omega)] at this⟩
    by_cases q91 : a = 91 ∧ k = 24
    · obtain ⟨qa, qk⟩ := q91
      subst qa
      subst qk
      show M2.1 2 1 = _
      rw [y0 2 1 (by omega), x1, y1]
    · by_cases q111 : a = 111
      · subst q111
        have hk : k < 2000 := by
          rcases hv with ⟨g, _⟩ | ⟨_, _, g⟩
          · omega
          · exact g
        show M2.1 3 k &&& 255 = M2.1 111 k
        by_cases q : z ≤ k ∧ k < T
        · have h1 := x2 (k - z) (by omega)
          have h2 := y2 (k - z) (by omega)
          rw [show z + (k - z) = k by omega] at h1 h2
          rw [y0 3 k (by omega), h1, h2]
          exact bI_255 _ (hL.getD _)
        · rw [eX 3 k (by omega) (by omega) (by omega) (fun ⟨e, _, _, q, _⟩ => by omega), s1 111 k ⟨by omega, by omega, by omega⟩ (by omega) (by omega) (fun ⟨e, _, _, q, _⟩ => by omega)]
          exact hi.xby hk
      · by_cases q109 : a = 109
        · subst q109
          have hkn : k < n := ho.1 (by omega)
          show M2.1 (19 + 6 * k) 17 = M2.1 109 k
          by_cases q : f ≤ k
          · rw [y0 _ _ (by omega), x3 k q hkn, y3 k q hkn]
          · rw [eX _ _ (by omega) (by omega) (by omega) (fun ⟨e, _, _, q2, _⟩ => by omega), s1 109 k ⟨by omega, by omega, by omega⟩ (by omega) (by omega) (fun ⟨e, _, _, _, q2⟩ => by omega)]
            exact hi.x17 hkn
        · obtain ⟨f1, f2, f3⟩ := loc_free hv q91 q111 q109
          have e1 : AX M2 a k = AX M a k := by
            unfold AX
            rw [eX _ _ hlt f1 (fun q => f2 q.1) (fun ⟨e, _, h2, q1, q2⟩ => f3 e (by omega) ⟨q1, q2⟩)]
          have e2 : M2.1 a k = M.1 a k := s1 a k (vd_yr hv) q91 (fun q => q111 q.1) (fun ⟨e, _, _, q, _⟩ => q109 q)
          rw [e1, e2]
          exact hi.2.2.2.1 a k hv ho2
  · have e1 : M2.1 (20 + 6 * i) k = M.1 (20 + 6 * i) k := (y0 _ _ (by omega)).trans (x4 _ _ (by omega) (by omega) (fun ⟨e, _, _, q, _⟩ => by omega))
    rw [e1]
    exact hi.xb i k hi1 hk
theorem sI_self {M : Me} {a k : Nat} {v : Int32} (h : M.1 a k = v) : sI M a k v = M := by
  refine Prod.ext ?_ rfl
  show up2 M.1 a k v = M.1
  funext x y
  rw [up2_at]
  by_cases q : x = a ∧ y = k
  · rw [if_pos q, ← h, q.1, q.2]
  · rw [if_neg q]
/-- the law of both: f entries stay where they are, z bytes stay -/
theorem goes_op {M : Me} {n z0 c f z : Nat} (hi : IV M n z0 c) (hf : f ≤ n) (hzl : z ≤ 2000) (hnb : ¬ bare M.1 n) (hl : z + (22 + c + lenS M.1 f n) ≤ 2000) : ∃ r M1 M2, f_X4_putFrom (sI M 2 1 (nI z)) 0 (nI f) = some (r, M1) ∧ f_X5_goes (sI M1 91 0 0) 91 (nI f) (nI z) = some (r, M2) ∧ INV M2 := by
  have hn := hi.1.1
  have hcl := hi.1.2.2.1
  have hE := hi.2.2.1
  have hb := hi.2.1
  have hal := all_len M.1 f n c z
  obtain ⟨L, hL⟩ : ∃ L, L = allB M.1 f n c z := ⟨_, rfl⟩
  have hX := f_putX (M := sI M 2 1 (nI z)) (σ := M.1) (n := n) (c := c) (f := f) (z := z) hn hcl hf (fun i h => (hi.ex h).stab (fun x y h1 h2 h3 => sI_ne (by omega))) hE hb (fun i h => by rw [sI_ne (by omega)]; exact hi.x17 h) (by rw [sI_ne (by omega)]; exact hi.xn) (by rw [sI_ne (by omega)]; exact hi.xc) (fun k hk => by rw [sI_ne (by omega)]; exact hi.xrm hk) sI_eq (by omega)
  rw [← hL] at hX hal
  obtain ⟨B, hB⟩ : ∃ B, B = bsX (sI M 2 1 (nI z)) M.1 f z (n - f) := ⟨_, rfl⟩
  rw [← hB] at hX
  obtain ⟨M1, hM1⟩ : ∃ M1, M1 = ap 3 2 1 bI B z L := ⟨_, rfl⟩
  rw [← hM1] at hX
  have hBo : ∀ x y, ¬ (x = 2 ∧ y = 1) → ¬ (∃ e, f ≤ e ∧ e < n ∧ x = 19 + 6 * e ∧ y = 17) → B.1 x y = M.1 x y := fun x y h1 h2 => by
    rw [hB, bsX_ne _ (fun e g1 g2 q => h2 ⟨e, g1, by omega, q.1, q.2⟩), sI_ne h1]
  have x4 : ∀ x y, ¬ (x = 2 ∧ y = 1) → ¬ (x = 3 ∧ z ≤ y ∧ y < z + L.length) → ¬ (∃ e, f ≤ e ∧ e < n ∧ x = 19 + 6 * e ∧ y = 17) → M1.1 x y = M.1 x y := fun x y h1 h2 h3 => by
    rw [hM1, ap_ne _ _ _ h1 h2]
    exact hBo x y h1 h3
  have hhi : ∀ x y, 91 ≤ x → M1.1 x y = M.1 x y := fun x y h => x4 x y (by omega) (by omega) (fun ⟨e, _, h2, q, _⟩ => by omega)
  have hG := f_goesY (M := sI M1 91 0 0) (σ := M.1) (n := n) (c := c) (f := f) (z := z) hn hcl hf hzl (fun a k h1 h2 => by rw [sI_ne (by omega)]; exact hhi a k (by omega)) hE hb (fun k hk => by rw [sI_ne (by omega)]; exact hhi _ _ (by omega)) (by rw [sI_ne (by omega), hhi _ _ (by omega)]; exact hi.yn) (by rw [sI_ne (by omega), hhi _ _ (by omega)]; exact hi.yc) (fun k => by rw [sI_ne (by omega)]; exact hhi _ _ (by omega)) hnb
  rw [← hL, if_pos (show z + L.length ≤ 2000 by omega)] at hG
  obtain ⟨D, hD⟩ : ∃ D, D = bsY (sI (sI M1 91 0 0) 91 25 (nI z)) M.1 f z (n - f) := ⟨_, rfl⟩
  rw [← hD] at hG
  refine ⟨_, _, _, hX, hG, n, z + L.length, c, ?_⟩
  have hDo : ∀ x y, ¬ (x = 91 ∧ (y = 0 ∨ y = 25)) → ¬ (∃ e, f ≤ e ∧ e < n ∧ x = 109 ∧ y = e) → D.1 x y = M1.1 x y := fun x y h1 h2 => by
    rw [hD, bsY_ne _ (fun e g1 g2 q => h2 ⟨e, g1, by omega, q.1, q.2⟩), sI_ne (by omega), sI_ne (by omega)]
  have hD25 : D.1 91 25 = nI z := by
    rw [hD, bsY_ne _ (fun e g1 g2 q => by omega), sI_eq]
  have hB21 : B.1 2 1 = nI z := by
    rw [hB, bsX_ne _ (fun e g1 g2 q => by omega), sI_eq]
  refine goes_iv (L := L) (z := z) (f := f) hi hf rfl (by omega) (by rw [hL]; exact b8_all _ _ _ _ _) (fun e => if e - f ≤ n - f then z + (cat (locB M.1) f (e - f)).length else 0) (fun e => ?_) ?_ (fun j hj => ?_) (fun e h1 h2 => ?_) x4 (fun x y hx => ?_) sI_eq (fun j hj => ?_) (fun e h1 h2 => ?_) (fun x y hr h1 h2 h3 => ?_)
  · show (if e - f ≤ n - f then _ else 0) ≤ 2000
    by_cases q : e - f ≤ n - f
    · rw [if_pos q]
      have h1 := cat_le (locB M.1) f q
      have h2 : L.length = (cat (locB M.1) f (n - f)).length + ((cat (cenR M.1 f z) 0 n).length + (endB M.1 n c (zC M.1 f n z) (zE M.1 f n z)).length) := by
        rw [hL]
        unfold allB
        rw [List.length_append, List.length_append]
      omega
    · rw [if_neg q]
      omega
  · rw [hM1]; exact ap_cnt (by decide) _ _ _ hB21
  · rw [hM1]; exact ap_at (by decide) _ _ _ _ hj
  · rw [if_pos (show e - f ≤ n - f by omega), hM1, ap_ne _ _ _ (by omega) (by omega), hB, bsX_at _ e h1 (by omega)]
    rfl
  · rw [sI_ne (by omega), ap_ne _ _ _ (by omega) (by omega), hDo _ _ (by omega) (fun ⟨e, _, _, q, _⟩ => by omega)]
  · rw [sI_ne (by omega)]; exact ap_at (by decide) _ _ _ _ hj
  · rw [if_pos (show e - f ≤ n - f by omega), sI_ne (by omega), ap_ne _ _ _ (by omega) (by omega), hD, bsY_at _ e h1 (by omega)]
    rfl
  · obtain ⟨r1, r2, r3⟩ := hr
    rw [sI_ne h1, ap_ne _ _ _ (by omega) h2, hDo _ _ (by omega) h3]
theorem op_write {M : Me} (h : INV M) : OP (fun M => f_X4_write M 0) (fun M => f_X5_write M 91) M := by
  obtain ⟨n, z0, c, hi⟩ := h
  have hn := hi.1.1
  have hcl := hi.1.2.2.1
  have hX := fun i (h : i < n) => hi.ex h
  rcases f_barX hn hX hi.xn with ⟨hb, hbx⟩ | ⟨hb, hbx⟩
  · refine OP.fault (v := 1) hi ?_ ?_
    · show f_X4_write M 0 = _
      unfold f_X4_write f_X4_faultOf
      rw [hbx, cal_s, if_neg (by decide)]
      rfl
    · show f_X5_write (sI M 0 6 1) 91 = _
      unfold f_X5_write f_X5_goes f_X5_fails
      rw [bnd_s, (f_barY (M := sI (sI M 0 6 1) 91 0 0) (σ := M.1) hn (fun a k h1 h2 => by rw [sI_ne (by omega), sI_ne (by omega)]) (by rw [sI_ne (by omega), sI_ne (by omega)]; exact hi.yn)).1 hb, cal_s, if_neg (by decide)]
      rfl
  · have hlf := f_lfX (M := M) (σ := M.1) (f := 0) hn hcl (Nat.zero_le _) hX hi.2.2.1 hi.xn hi.xc
    have hL := lenS_le (f := 0) hi.2.2.1 n (Nat.le_refl n)
    have hY := fun (M' : Me) (e1 : EY M' M.1) (e2 : ∀ k, k < 12 → M'.1 109 k = M.1 109 k) (e3 : M'.1 91 2 = nI n) (e4 : M'.1 91 22 = nI c) (e5 : ∀ k, M'.1 110 k = M.1 110 k) => f_goesY (M := M') (σ := M.1) (n := n) (c := c) (f := 0) (z := 0) hn hcl (Nat.zero_le _) (by omega) e1 hi.2.2.1 hi.2.1 e2 e3 e4 e5 hb
    by_cases hl : 22 + c + lenS M.1 0 n ≤ 2000
    · obtain ⟨r, M1, M2, h1, h2, h3⟩ := goes_op (f := 0) (z := 0) hi (Nat.zero_le _) (by omega) hb (by omega)
      refine ⟨r, M1, M2, ?_, ?_, h3⟩
      · show f_X4_write M 0 = _
        unfold f_X4_write
        have h1' : f_X4_putFrom (sI M 2 1 0) 0 0 = some (r, M1) := h1
        have hlf' : f_X4_lengthFrom M 0 0 = _ := hlf
        rw [hbx, cal_s, if_pos rfl, hlf', cal_s, if_pos (show nI (22 + c + lenS M.1 0 n) ≤ (2000 : Int32) from nI_le (b := 2000) hl (by decide)), bnd_s, rf_0_1, h1', cal_s]
      · show f_X5_write M1 91 = _
        unfold f_X5_write
        have h2' : f_X5_goes (sI M1 91 0 0) 91 0 0 = some (r, M2) := h2
        rw [bnd_s, h2', cal_s]
    · refine OP.read (r := -5) hi ?_ ?_
      · show f_X4_write M 0 = _
        unfold f_X4_write
        have hlf' : f_X4_lengthFrom M 0 0 = _ := hlf
        rw [hbx, cal_s, if_pos rfl, hlf', cal_s, if_neg (show ¬ nI (22 + c + lenS M.1 0 n) ≤ (2000 : Int32) from nI_ge (a := 2000) (by omega) (by omega))]
      · show f_X5_write M 91 = _
        unfold f_X5_write
        have hal := all_len M.1 0 n c 0
        have h2 : f_X5_goes (sI M 91 0 0) 91 0 0 = some (-5, sI M 91 0 0) := (hY (sI M 91 0 0) (fun a k h1 h2 => by rw [sI_ne (by omega)]) (fun k hk => by rw [sI_ne (by omega)]) (by rw [sI_ne (by omega)]; exact hi.yn) (by rw [sI_ne (by omega)]; exact hi.yc) (fun k => by rw [sI_ne (by omega)])).trans (if_neg (by omega))
        rw [bnd_s, h2, cal_s]
