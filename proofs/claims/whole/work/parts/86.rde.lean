/-! ONE ENTRY TAKEN, by ZipForms -/
def eK (b : Nat → Nat) (q : Nat) : Int32 := if fo b q = 0 then (if mth b q = 8 then 1 else 0) else 2
def eG (b : Nat → Nat) (q : Nat) : Int32 := if flg b q = 8 then 1 else if wq b q = 0 then 0 else 2
/-- has it data -/
def eD (b : Nat → Nat) (q : Nat) : Int32 := if fo b q = 0 then 1 else 0
def eS (b : Nat → Nat) (q : Nat) : Int32 := if fo b q = 0 then nI (nm b (q + 16) 4) else 0
def pl_ (b : Nat → Nat) (q p : Nat) : Nat := pp b (pq b q) p
def pn (b : Nat → Nat) (q p : Nat) : Nat := nm b (pp b (pq b q) p + 2) 2
theorem f_beg {M : Me} {i : Nat} {k f : Int32} (hi : i < 12) : ∃ B, f_X0_begin M (19 + 6 * i) k f = some ((), B) ∧ B.2 = M.2 ∧ B.1 (19 + 6 * i) 5 = k ∧ B.1 (19 + 6 * i) 6 = f ∧ (∀ y, 8 ≤ y ∧ y ≤ 13 → B.1 (19 + 6 * i) y = 0) ∧ (∀ x y, x ≠ 19 + 6 * i → ¬ (x = 20 + 6 * i ∧ y = 0) → B.1 x y = M.1 x y) := by
  have hck : ∀ {γ : Type} (X : Option γ), chk (0 : Int32) (ln (20 + 6 * i)) X = X := fun X => chk_n (j := 0) X (by rw [ln_e0 hi]; omega) (by rw [ln_e0 hi]; decide)
  unfold f_X0_begin
  rw [bnd_s, bnd_s, bnd_s, bnd_s, bnd_s, chZ_0, bnd_s, chZ_0, bnd_s, bnd_s, bnd_s, bnd_s, bnd_s, bnd_s, bnd_s]
  obtain ⟨A1, hA1⟩ : ∃ A1, A1 = sI (sI (sI (sI (sI (sI M (19 + 6 * i) 5 k) (19 + 6 * i) 6 f) (19 + 6 * i) 7 0) (19 + 6 * i) 8 0) (19 + 6 * i) 9 0) (19 + 6 * i) 10 0 := ⟨_, rfl⟩
  rw [← hA1]
  obtain ⟨A, hA⟩ : ∃ A, A = sI (sI (sI (sI (sI (sI (sI A1 (19 + 6 * i) 11 0) (19 + 6 * i) 12 0) (19 + 6 * i) 13 0) (19 + 6 * i) 14 0) (19 + 6 * i) 15 0) (19 + 6 * i) 16 0) (19 + 6 * i) 17 (-1) := ⟨_, rfl⟩
  rw [← hA]
  have a2 : A.2 = M.2 := by rw [hA, hA1]; rfl
  have a5 : A.1 (19 + 6 * i) 5 = k := by rw [hA, hA1]; simp (disch := omega) only [sI_ne, sI_eq]
  have a6 : A.1 (19 + 6 * i) 6 = f := by rw [hA, hA1]; simp (disch := omega) only [sI_ne, sI_eq]
  have a8 : ∀ y, 8 ≤ y ∧ y ≤ 13 → A.1 (19 + 6 * i) y = 0 := by
    intro y hy
    rcases (show y = 8 ∨ y = 9 ∨ y = 10 ∨ y = 11 ∨ y = 12 ∨ y = 13 by omega) with e | e | e | e | e | e <;> subst e <;> rw [hA, hA1] <;> simp (disch := omega) only [sI_ne, sI_eq]
  have aF : ∀ x y, x ≠ 19 + 6 * i → A.1 x y = M.1 x y := by
    intro x y hx
    rw [hA, hA1]
    simp (disch := omega) only [sI_ne]
  by_cases g : k = 2
  · rw [if_pos g, rf_e0 hi, hck, bnd_s, bnd_s, show (0 : Int32).toNatClampNeg = 0 from rfl]
    refine ⟨_, rfl, a2, ?_, ?_, fun y hy => ?_, fun x y h1 h2 => ?_⟩
    · rw [sI_ne (by omega), sI_ne (by omega)]; exact a5
    · rw [sI_ne (by omega), sI_ne (by omega)]; exact a6
    · rw [sI_ne (by omega), sI_ne (by omega)]; exact a8 y hy
    · rw [sI_ne (by omega), sI_ne (by omega)]; exact aF x y h1
  · rw [if_neg g]
    exact ⟨A, rfl, a2, a5, a6, a8, fun x y h1 _ => aF x y h1⟩
/-- the parts, one after the other -/
def ptM (N : Me) (b : Nat → Nat) (i u : Nat) : Nat → Me
  | 0 => N
  | k + 1 => cp bI (sI (sI (ptM N b i u k) (22 + 6 * i) k (nI (nm b (pp b u k) 2))) (23 + 6 * i) k (nI (nm b (pp b u k + 2) 2))) (24 + 6 * i) (k * 8) b (pp b u k + 4) (nm b (pp b u k + 2) 2)
theorem ptM_2 {N : Me} {b : Nat → Nat} {i u : Nat} : ∀ k, (ptM N b i u k).2 = N.2
  | 0 => rfl
  | k + 1 => by
    show (cp bI _ _ _ _ _ _).2 = _
    rw [cp_2]
    exact ptM_2 k
theorem ptM_ne {N : Me} {b : Nat → Nat} {i u x y : Nat} (h : ¬ (22 + 6 * i ≤ x ∧ x ≤ 24 + 6 * i)) : ∀ k, (ptM N b i u k).1 x y = N.1 x y
  | 0 => rfl
  | k + 1 => by
    show (cp bI _ _ _ _ _ _).1 x y = _
    rw [cp_ne _ (by omega), sI_ne (by omega), sI_ne (by omega)]
    exact ptM_ne h k
theorem ptM_22 {N : Me} {b : Nat → Nat} {i u p : Nat} : ∀ k, (ptM N b i u k).1 (22 + 6 * i) p = if p < k then nI (nm b (pp b u p) 2) else N.1 (22 + 6 * i) p
  | 0 => by rw [if_neg (by omega)]; rfl
  | k + 1 => by
    show (cp bI _ _ _ _ _ _).1 _ _ = _
    rw [cp_ne _ (by omega), sI_ne (by omega)]
    by_cases q : p = k
    · subst q
      rw [sI_eq, if_pos (by omega)]
    · rw [sI_ne (by omega), ptM_22 k]
      by_cases z : p < k
      · rw [if_pos z, if_pos (by omega)]
      · rw [if_neg z, if_neg (by omega)]
theorem ptM_23 {N : Me} {b : Nat → Nat} {i u p : Nat} : ∀ k, (ptM N b i u k).1 (23 + 6 * i) p = if p < k then nI (nm b (pp b u p + 2) 2) else N.1 (23 + 6 * i) p
  | 0 => by rw [if_neg (by omega)]; rfl
  | k + 1 => by
    show (cp bI _ _ _ _ _ _).1 _ _ = _
    rw [cp_ne _ (by omega)]
    by_cases q : p = k
    · subst q
      rw [sI_eq, if_pos (by omega)]
    · rw [sI_ne (by omega), sI_ne (by omega), ptM_23 k]
      by_cases z : p < k
      · rw [if_pos z, if_pos (by omega)]
      · rw [if_neg z, if_neg (by omega)]
theorem ptM_24 {N : Me} {b : Nat → Nat} {i u p j : Nat} (hj : j < 8) : ∀ k, (∀ l, l < k → nm b (pp b u l + 2) 2 ≤ 8) → (ptM N b i u k).1 (24 + 6 * i) (8 * p + j) = if p < k ∧ j < nm b (pp b u p + 2) 2 then bI (b (pp b u p + 4 + j)) else N.1 (24 + 6 * i) (8 * p + j)
  | 0, _ => by rw [if_neg (by omega)]; rfl
  | k + 1, hk => by
    have hl := hk k (by omega)
    show (cp bI _ _ _ _ _ _).1 _ _ = _
    by_cases q : p = k
    · subst q
      by_cases z : j < nm b (pp b u p + 2) 2
      · rw [if_pos ⟨by omega, z⟩, show 8 * p + j = p * 8 + j by omega, cp_at _ _ z]
      · rw [if_neg (by omega), cp_ne _ (by omega), sI_ne (by omega), sI_ne (by omega), ptM_24 hj p (fun l h => hk l (by omega)), if_neg (by omega)]
    · rw [cp_ne _ (by omega), sI_ne (by omega), sI_ne (by omega), ptM_24 hj k (fun l h => hk l (by omega))]
      by_cases z : p < k ∧ j < nm b (pp b u p + 2) 2
      · rw [if_pos z, if_pos (by omega)]
      · rw [if_neg z, if_neg (by omega)]
theorem f_tPt {M : Me} {b : Nat → Nat} {i a u t m : Nat} (hb : Bb b) (hx : BX M b) (hi : i < 12) (ha : a < 19) (h8 : M.1 a 8 = nI u) (h9 : M.1 a 9 = nI m) (hp : prt b u t m) (ht : t ≤ 2000) : f_X0_takeParts M (19 + 6 * i) a 2 = some ((), ptM (sI M (19 + 6 * i) 9 (nI m)) b i u m) := by
  obtain ⟨hm, hpe, hgp⟩ := hp
  obtain ⟨N, hN⟩ : ∃ N, N = sI M (19 + 6 * i) 9 (nI m) := ⟨_, rfl⟩
  have xN : BX N b := by rw [hN]; exact hx.up (by omega)
  have n9 : N.1 (19 + 6 * i) 9 = nI m := by rw [hN, sI_eq]
  unfold f_X0_takeParts
  rw [h8, bndV_s, bnd_s, h9, ← hN]
  unfold l_X0_takeParts_16
  refine lp_run _ (fun k => (nI (pp b u k), nI k, ptM N b i u k)) m _ (fun kb k hk => ?_) (fun kb => ?_) FU 0 (by omega) (by unfold FU; omega)
  · show g_X0_takeParts_16 _ kb (19 + 6 * i) 2 (nI (pp b u k)) (nI k) (ptM N b i u k) = kb (nI (pp b u k + (4 + nm b (pp b u k + 2) 2)), nI (k + 1), ptM N b i u (k + 1))
    have h1 := pp_4 (b := b) (s := u) hk
    have hlen := (hgp k hk).2
    unfold g_X0_takeParts_16
    rw [ptM_ne (by omega), n9, if_neg (nI_ge hk (by omega)), if_neg (show ¬ (3 : Int32) ≤ nI k from nI_ge (b := 3) (by omega) (by decide)), rf_e2 hi, rf_e3 hi, rf_e4 hi]
    obtain ⟨A, hA⟩ : ∃ A, A = ptM N b i u k := ⟨_, rfl⟩
    rw [← hA]
    have xA : BX A b := by rw [hA]; exact xN.same (fun y => ptM_ne (by omega) k)
    rw [f_n2 hb xA (by omega), cal_s, chk_n _ (show k < ln (22 + 6 * i) by rw [ln_e2 hi]; omega) (by rw [ln_e2 hi]; decide), bnd_s, nI_clamp (by omega)]
    have xB : BX (sI A (22 + 6 * i) k (nI (nm b (pp b u k) 2))) b := xA.up (by omega)
    rw [show (2 : Int32) = nI 2 from rfl, nI_add, f_n2 hb xB (by omega), cal_s, chk_n _ (show k < ln (23 + 6 * i) by rw [ln_e3 hi]; omega) (by rw [ln_e3 hi]; decide), bnd_s]
    obtain ⟨C, hC⟩ : ∃ C, C = sI (sI A (22 + 6 * i) k (nI (nm b (pp b u k) 2))) (23 + 6 * i) k (nI (nm b (pp b u k + 2) 2)) := ⟨_, rfl⟩
    have xC : BX C b := by rw [hC]; exact xB.up (by omega)
    have c23 : C.1 (23 + 6 * i) k = nI (nm b (pp b u k + 2) 2) := by rw [hC, sI_eq]
    rw [← hC, chk_n _ (show k < ln (23 + 6 * i) by rw [ln_e3 hi]; omega) (by rw [ln_e3 hi]; decide), c23, show (4 : Int32) = nI 4 from rfl, nI_add, um_8, f_copy hb xC (show 24 + 6 * i ≠ 3 by omega) (by rw [ln_e4 hi]; omega) (by rw [ln_e4 hi]; decide) (by omega), cal_s, chk_n _ (show k < ln (23 + 6 * i) by rw [ln_e3 hi]; omega) (by rw [ln_e3 hi]; decide), cp_ne _ (by omega), c23, nI_add, nI_add, bndV_s, bndV_s, nI_1]
    rw [hC, hA]
    rfl
  · show g_X0_takeParts_16 _ kb (19 + 6 * i) 2 (nI (pp b u m)) (nI m) (ptM N b i u m) = _
    unfold g_X0_takeParts_16
    rw [ptM_ne (by omega), n9, if_pos (nI_le (Nat.le_refl m) (by omega))]
/-- what stands in an entry of ZipForms that was taken from the row at q -/
def XE (M M' : Me) (b : Nat → Nat) (q i m : Nat) : Prop := (M'.1 (19 + 6 * i) 5 = eK b q ∧ M'.1 (19 + 6 * i) 6 = eG b q ∧ M'.1 (19 + 6 * i) 7 = nI (rN b q) ∧ M'.1 (19 + 6 * i) 8 = nI (dn b q) ∧ M'.1 (19 + 6 * i) 9 = nI m ∧ M'.1 (19 + 6 * i) 10 = eD b q ∧ M'.1 (19 + 6 * i) 11 = eD b q ∧ (eK b q = 1 → M'.1 (19 + 6 * i) 12 = (tsv b q).toInt32) ∧ M'.1 (19 + 6 * i) 13 = eS b q ∧ M'.1 (19 + 6 * i) 14 = nI (nm b (q + 12) 2) ∧ M'.1 (19 + 6 * i) 15 = nI (nm b (q + 14) 2) ∧ M'.1 (19 + 6 * i) 16 = nI (nm b (q + 38) 4) ∧ M'.1 (19 + 6 * i) 17 = nI (lcl b q)) ∧ (∀ k, M'.1 (20 + 6 * i) k = if k < rN b q then bI (b (q + 46 + k)) else M.1 (20 + 6 * i) k) ∧ (∀ k, M'.1 (21 + 6 * i) k = if k < dn b q then bI (b (dp b q + k)) else M.1 (21 + 6 * i) k) ∧ (∀ p, M'.1 (22 + 6 * i) p = if p < m then nI (nm b (pl_ b q p) 2) else M.1 (22 + 6 * i) p) ∧ (∀ p, M'.1 (23 + 6 * i) p = if p < m then nI (pn b q p) else M.1 (23 + 6 * i) p) ∧ (∀ p j, j < 8 → M'.1 (24 + 6 * i) (8 * p + j) = if p < m ∧ j < pn b q p then bI (b (pl_ b q p + 4 + j)) else M.1 (24 + 6 * i) (8 * p + j))
theorem cp_if {f : Nat → Int32} {M : Me} {r : Nat} {b : Nat → Nat} {p n k : Nat} : (cp f M r 0 b p n).1 r k = if k < n then f (b (p + k)) else M.1 r k := by
  by_cases h : k < n
  · rw [if_pos h]
    have := cp_at (f := f) (M := M) (r := r) (t := 0) (b := b) (p := p) n k h
    rwa [Nat.zero_add] at this
  · rw [if_neg h, cp_ne _ (by omega)]
theorem f_cpy0 {M : Me} {b : Nat → Nat} (hb : Bb b) (hx : BX M b) {p n r : Nat} (hr : r ≠ 3) (hl : n ≤ ln r) (hl2 : ln r < 1000) (hp : p + n < 2 ^ 31) : f_X3_copyTo M 2 (nI p) (nI n) r 0 = some ((), cp bI M r 0 b p n) := f_copy (t := 0) hb hx hr (by omega) hl2 hp
theorem f_tk {M : Me} {b : Nat → Nat} {cf i q m : Nat} (hb : Bb b) (hx : BX M b) (hi : i < 12) (hr : RF M b (6 + i) q) (hg : RG M b (6 + i) q) (hp : prt b (pq b q) (nxt b q) m) (hnx : nxt b q ≤ 2000) (hc : cf ≤ 2000) (h4 : C4 b q) (h5 : C5 b q) (h6 : C6 b cf q) : ∃ M', f_X0_takeFrom M (19 + 6 * i) (6 + i) 2 = some ((), M') ∧ XE M M' b q i m ∧ M'.2 = M.2 ∧ ∀ x y, ¬ (19 + 6 * i ≤ x ∧ x ≤ 24 + 6 * i) → M'.1 x y = M.1 x y := by
  obtain ⟨f0, f1, f2, f3, f4, f5, f6, f7, f11, l12, l13, l14, l17⟩ := hr
  obtain ⟨g8, g10, g15, g16, m', hp', g9⟩ := hg
  have em' := prt_uniq hp' hp
  subst em'
  obtain ⟨e15, hdn⟩ := psz_dn h5
  have hre := c4_re h4
  have hn16 := h4.1.2.2.2
  have hn1 := h4.1.2.2.1
  have h6a := h6.1
  have hnx2 : nxt b q = q + 46 + rN b q + rE b q := rfl
  have hdp : dp b q = lcl b q + 30 + rN b q + rE b q := rfl
  have hw := wq_01 b q
  have hfo := fo_01 b q
  have hm := n2_lt hb (q + 10)
  have hfl := n2_lt hb (q + 8)
  have em : nm b (q + 10) 2 = mth b q := rfl
  have ef : nm b (q + 8) 2 = flg b q := rfl
  rw [em] at hm f2
  rw [ef] at hfl f1
  have el : nm b (q + 42) 4 = lcl b q := rfl
  rw [el] at l17
  have c8 : (nI (flg b q) = (8 : Int32)) = (flg b q = 8) := propext (nI_eq (b := 8) (by omega) (by decide))
  have m8 : (nI (mth b q) = (8 : Int32)) = (mth b q = 8) := propext (nI_eq (b := 8) (by omega) (by decide))
  have eKd : f_X2_kind M (6 + i) = some (eK b q, M) := by
    unfold f_X2_kind eK
    rw [f11, f2]
    simp only [m8]
    repeat' split
    all_goals rfl
  have eFd : f_X2_form M (6 + i) = some (eG b q, M) := by
    unfold f_X2_form eG
    rw [g10, f1]
    simp only [c8]
    have h55 := h5.2.2.2.2.2
    by_cases w0 : wq b q = 0
    · rw [if_pos w0]
      by_cases q8 : flg b q = 8
      · rw [if_pos q8, if_pos q8]
      · rw [if_neg q8, if_neg q8, if_pos w0]
    · have w1 : (wq b q).toInt = 1 := by
        rcases hw with z | z
        · exact absurd (show wq b q = 0 by rw [eqc, t3_0]; exact z) w0
        · exact z
      rw [if_neg w0, if_neg (show ¬ flg b q = 8 from fun z => h55 ⟨z, w1⟩), if_neg w0]
  obtain ⟨B, eB, b2, b5, b6, b8, bF⟩ := f_beg (M := M) (i := i) (k := eK b q) (f := eG b q) hi
  have lo : ∀ x y, x < 19 → B.1 x y = M.1 x y := fun x y h => bF x y (by omega) (by omega)
  unfold f_X0_takeFrom f_X2_namePlace
  rw [eKd, cal_s, eFd, cal_s, eB, cal_s, bnd_s, lo (6 + i) 6 (by omega), f6, cal_s, sI_eq, rf_e0 hi]
  obtain ⟨C, hC⟩ : ∃ C, C = sI B (19 + 6 * i) 7 (nI (rN b q)) := ⟨_, rfl⟩
  have xC : BX C b := by rw [hC]; exact (hx.same (fun y => lo 3 y (by omega))).up (by omega)
  have cF : ∀ x y, ¬ (x = 19 + 6 * i) → C.1 x y = B.1 x y := fun x y h => by rw [hC, sI_ne (by omega)]
  have c7 : C.1 (19 + 6 * i) 7 = nI (rN b q) := by rw [hC, sI_eq]
  rw [← hC, cF (6 + i) 0 (by omega), lo (6 + i) 0 (by omega), f0, show (46 : Int32) = nI 46 from rfl, nI_add, f_cpy0 hb xC (show 20 + 6 * i ≠ 3 by omega) (by rw [ln_e0 hi]; omega) (by rw [ln_e0 hi]; decide) (by omega), cal_s]
  obtain ⟨D, hD⟩ : ∃ D, D = cp bI C (20 + 6 * i) 0 b (q + 46) (rN b q) := ⟨_, rfl⟩
  have dF : ∀ x y, ¬ (x = 20 + 6 * i) → D.1 x y = C.1 x y := fun x y h => by rw [hD, cp_ne _ (by omega)]
  have dlo : ∀ x y, x < 19 → D.1 x y = M.1 x y := fun x y h => by rw [dF x y (by omega), cF x y (by omega)]; exact lo x y h
  have D2 : D.2 = M.2 := by rw [hD, cp_2, hC]; exact b2
  rw [← hD, dlo (6 + i) 3 (by omega), f3, bnd_s, sI_ne (by omega), dlo (6 + i) 4 (by omega), f4, bnd_s, sI_ne (by omega), sI_ne (by omega), dlo (6 + i) 5 (by omega), f5, bnd_s, sI_2, sI_2, sI_2, D2, l17, lN_i, bnd_s]
  obtain ⟨E, hE⟩ : ∃ E, E = sI (sI (sI (sI D (19 + 6 * i) 14 (nI (nm b (q + 12) 2))) (19 + 6 * i) 15 (nI (nm b (q + 14) 2))) (19 + 6 * i) 16 (nI (nm b (q + 38) 4))) (19 + 6 * i) 17 (nI (lcl b q)) := ⟨_, rfl⟩
  have eF' : ∀ x y, ¬ (x = 19 + 6 * i ∧ 14 ≤ y) → E.1 x y = D.1 x y := fun x y h => by rw [hE, sI_ne (by omega), sI_ne (by omega), sI_ne (by omega), sI_ne (by omega)]
  have E2 : E.2 = M.2 := by rw [hE]; exact D2
  have elo : ∀ x y, x < 19 → E.1 x y = M.1 x y := fun x y h => by rw [eF' x y (by omega)]; exact dlo x y h
  have xE : BX E b := hx.same (fun y => elo 3 y (by omega))
  rw [← hE, f_tPt hb xE hi (show 6 + i < 19 by omega) ((elo _ _ (by omega)).trans g8) ((elo _ _ (by omega)).trans g9) hp hnx, cal_s]
  obtain ⟨T, hT⟩ : ∃ T, T = ptM (sI E (19 + 6 * i) 9 (nI m')) b i (pq b q) m' := ⟨_, rfl⟩
  rw [← hT]
  have tF : ∀ x y, ¬ (22 + 6 * i ≤ x ∧ x ≤ 24 + 6 * i) → ¬ (x = 19 + 6 * i ∧ y = 9) → T.1 x y = E.1 x y := fun x y h1 h2 => by rw [hT, ptM_ne h1, sI_ne h2]
  have T2 : T.2 = M.2 := by rw [hT, ptM_2]; exact E2
  have tlo : ∀ x y, x < 19 → T.1 x y = M.1 x y := fun x y h => by rw [tF x y (by omega) (by omega)]; exact elo x y h
  have t5 : T.1 (19 + 6 * i) 5 = eK b q := by rw [tF _ _ (by omega) (by omega), eF' _ _ (by omega), dF _ _ (by omega), hC, sI_ne (by omega)]; exact b5
  have t6 : T.1 (19 + 6 * i) 6 = eG b q := by rw [tF _ _ (by omega) (by omega), eF' _ _ (by omega), dF _ _ (by omega), hC, sI_ne (by omega)]; exact b6
  have t7 : T.1 (19 + 6 * i) 7 = nI (rN b q) := by rw [tF _ _ (by omega) (by omega), eF' _ _ (by omega), dF _ _ (by omega)]; exact c7
  have t9 : T.1 (19 + 6 * i) 9 = nI m' := by rw [hT, ptM_ne (by omega), sI_eq]
  have t8 : ∀ y, (y = 8 ∨ (10 ≤ y ∧ y ≤ 13)) → T.1 (19 + 6 * i) y = 0 := fun y hy => by rw [tF _ _ (by omega) (by omega), eF' _ _ (by omega), dF _ _ (by omega), hC, sI_ne (by omega)]; exact b8 y (by omega)
  have t14 : T.1 (19 + 6 * i) 14 = nI (nm b (q + 12) 2) := by rw [tF _ _ (by omega) (by omega), hE]; simp (disch := omega) only [sI_ne, sI_eq]
  have t15 : T.1 (19 + 6 * i) 15 = nI (nm b (q + 14) 2) := by rw [tF _ _ (by omega) (by omega), hE]; simp (disch := omega) only [sI_ne, sI_eq]
  have t16 : T.1 (19 + 6 * i) 16 = nI (nm b (q + 38) 4) := by rw [tF _ _ (by omega) (by omega), hE]; simp (disch := omega) only [sI_ne, sI_eq]
  have t17 : T.1 (19 + 6 * i) 17 = nI (lcl b q) := by rw [tF _ _ (by omega) (by omega), hE, sI_eq]
  have tn : ∀ k, T.1 (20 + 6 * i) k = if k < rN b q then bI (b (q + 46 + k)) else M.1 (20 + 6 * i) k := by
    intro k
    rw [tF _ _ (by omega) (by omega), eF' _ _ (by omega), hD, cp_if]
    by_cases z : k < rN b q
    · rw [if_pos z, if_pos z]
    · rw [if_neg z, if_neg z, cF _ _ (by omega)]
      exact bF _ _ (by omega) (by omega)
  have up : ∀ x y, 21 + 6 * i ≤ x → x ≤ 24 + 6 * i → E.1 x y = M.1 x y := fun x y h1 h2 => by rw [eF' _ _ (by omega), dF _ _ (by omega), cF _ _ (by omega)]; exact bF _ _ (by omega) (by omega)
  have t22 : ∀ p, T.1 (22 + 6 * i) p = if p < m' then nI (nm b (pl_ b q p) 2) else M.1 (22 + 6 * i) p := by
    intro p
    rw [hT, ptM_22, sI_ne (by omega), up _ _ (by omega) (by omega)]
    rfl
  have t23 : ∀ p, T.1 (23 + 6 * i) p = if p < m' then nI (pn b q p) else M.1 (23 + 6 * i) p := by
    intro p
    rw [hT, ptM_23, sI_ne (by omega), up _ _ (by omega) (by omega)]
    rfl
  have t24 : ∀ p j, j < 8 → T.1 (24 + 6 * i) (8 * p + j) = if p < m' ∧ j < pn b q p then bI (b (pl_ b q p + 4 + j)) else M.1 (24 + 6 * i) (8 * p + j) := by
    intro p j hj
    rw [hT, ptM_24 hj _ (fun l hl => (hp.2.2 l hl).2), sI_ne (by omega), up _ _ (by omega) (by omega)]
    rfl
  have tfr : ∀ x y, ¬ (19 + 6 * i ≤ x ∧ x ≤ 24 + 6 * i) → T.1 x y = M.1 x y := fun x y h => by
    rw [tF x y (by omega) (by omega), eF' x y (by omega), dF x y (by omega), cF x y (by omega)]
    exact bF x y (by omega) (by omega)
  rw [t5]
  by_cases gf : fo b q = 0
  · have hK : ¬ eK b q = 2 := by
      unfold eK
      rw [if_pos gf]
      split
      · decide
      · decide
    have hD' : eD b q = 1 := by unfold eD; rw [if_pos gf]
    have hS' : eS b q = nI (nm b (q + 16) 4) := by unfold eS; rw [if_pos gf]
    rw [if_neg hK, chZ_1, bnd_s, sI_2, T2, g15, e15, lN_i, bnd_s]
    obtain ⟨U, hU⟩ : ∃ U, U = sI (sI T (19 + 6 * i) 10 1) (19 + 6 * i) 8 (nI (dn b q)) := ⟨_, rfl⟩
    have U2 : U.2 = M.2 := by rw [hU]; exact T2
    have ulo : ∀ x y, x < 19 → U.1 x y = M.1 x y := fun x y h => by rw [hU, sI_ne (by omega), sI_ne (by omega)]; exact tlo x y h
    have u8 : U.1 (19 + 6 * i) 8 = nI (dn b q) := by rw [hU, sI_eq]
    have xU : BX U b := hx.same (fun y => ulo 3 y (by omega))
    have hdP : f_X2_dataPlace U (6 + i) = some (nI (dp b q), U) := by
      unfold f_X2_dataPlace
      rw [U2, l17, lN_i, ulo _ _ (by omega), ulo _ _ (by omega), f6, f7, show (30 : Int32) = nI 30 from rfl, nI_add, nI_add, nI_add]
      rfl
    rw [← hU, hdP, cal_s, u8, rf_e1 hi, f_cpy0 hb xU (show 21 + 6 * i ≠ 3 by omega) (by rw [ln_e1 hi]; omega) (by rw [ln_e1 hi]; decide) (by omega), cal_s, chZ_1, bnd_s]
    obtain ⟨V, hV⟩ : ∃ V, V = cp bI U (21 + 6 * i) 0 b (dp b q) (dn b q) := ⟨_, rfl⟩
    have V2 : V.2 = M.2 := by rw [hV, cp_2]; exact U2
    have vF : ∀ x y, ¬ (x = 21 + 6 * i) → V.1 x y = U.1 x y := fun x y h => by rw [hV, cp_ne _ (by omega)]
    rw [← hV, sI_2, V2, l12, lN_i, bnd_s]
    obtain ⟨W, hW⟩ : ∃ W, W = sI (sI V (19 + 6 * i) 11 1) (19 + 6 * i) 13 (nI (nm b (q + 16) 4)) := ⟨_, rfl⟩
    have wF : ∀ x y, ¬ (x = 19 + 6 * i ∧ (y = 11 ∨ y = 13)) → W.1 x y = V.1 x y := fun x y h => by rw [hW, sI_ne (by omega), sI_ne (by omega)]
    have W2 : W.2 = M.2 := by rw [hW]; exact V2
    have wT : ∀ y, (y = 5 ∨ y = 6 ∨ y = 7 ∨ y = 9 ∨ 14 ≤ y) → W.1 (19 + 6 * i) y = T.1 (19 + 6 * i) y := fun y hy => by rw [wF _ _ (by omega), vF _ _ (by omega), hU, sI_ne (by omega), sI_ne (by omega)]
    have wO : ∀ x y, x ≠ 19 + 6 * i → x ≠ 21 + 6 * i → W.1 x y = T.1 x y := fun x y h1 h2 => by rw [wF _ _ (by omega), vF _ _ (by omega), hU, sI_ne (by omega), sI_ne (by omega)]
    have w10 : W.1 (19 + 6 * i) 10 = 1 := by rw [wF _ _ (by omega), vF _ _ (by omega), hU, sI_ne (by omega), sI_eq]
    have w8 : W.1 (19 + 6 * i) 8 = nI (dn b q) := by rw [wF _ _ (by omega), vF _ _ (by omega)]; exact u8
    have w11 : W.1 (19 + 6 * i) 11 = 1 := by rw [hW, sI_ne (by omega), sI_eq]
    have w13 : W.1 (19 + 6 * i) 13 = nI (nm b (q + 16) 4) := by rw [hW, sI_eq]
    have wd : ∀ k, W.1 (21 + 6 * i) k = if k < dn b q then bI (b (dp b q + k)) else M.1 (21 + 6 * i) k := by
      intro k
      rw [wF _ _ (by omega), hV, cp_if]
      by_cases z : k < dn b q
      · rw [if_pos z, if_pos z]
      · rw [if_neg z, if_neg z, hU, sI_ne (by omega), sI_ne (by omega), tF _ _ (by omega) (by omega)]
        exact up _ _ (by omega) (by omega)
    have w5 : W.1 (19 + 6 * i) 5 = eK b q := (wT 5 (by omega)).trans t5
    have fin : ∀ v, (eK b q = 1 → v = (tsv b q).toInt32) → XE M (sI W (19 + 6 * i) 12 v) b q i m' ∧ (sI W (19 + 6 * i) 12 v).2 = M.2 ∧ ∀ x y, ¬ (19 + 6 * i ≤ x ∧ x ≤ 24 + 6 * i) → (sI W (19 + 6 * i) 12 v).1 x y = M.1 x y := by
      intro v hv
      refine ⟨⟨⟨?_, ?_, ?_, ?_, ?_, ?_, ?_, ?_, ?_, ?_, ?_, ?_, ?_⟩, fun k => ?_, fun k => ?_, fun p => ?_, fun p => ?_, fun p j hj => ?_⟩, W2, fun x y h => ?_⟩
      · rw [sI_ne (by omega)]; exact w5
      · rw [sI_ne (by omega), wT _ (by omega)]; exact t6
      · rw [sI_ne (by omega), wT _ (by omega)]; exact t7
      · rw [sI_ne (by omega)]; exact w8
      · rw [sI_ne (by omega), wT _ (by omega)]; exact t9
      · rw [sI_ne (by omega), hD']; exact w10
      · rw [sI_ne (by omega), hD']; exact w11
      · intro hk; rw [sI_eq]; exact hv hk
      · rw [sI_ne (by omega), hS']; exact w13
      · rw [sI_ne (by omega), wT _ (by omega)]; exact t14
      · rw [sI_ne (by omega), wT _ (by omega)]; exact t15
      · rw [sI_ne (by omega), wT _ (by omega)]; exact t16
      · rw [sI_ne (by omega), wT _ (by omega)]; exact t17
      · rw [sI_ne (by omega), wO _ _ (by omega) (by omega)]; exact tn k
      · rw [sI_ne (by omega)]; exact wd k
      · rw [sI_ne (by omega), wO _ _ (by omega) (by omega)]; exact t22 p
      · rw [sI_ne (by omega), wO _ _ (by omega) (by omega)]; exact t23 p
      · rw [sI_ne (by omega), wO _ _ (by omega) (by omega)]; exact t24 p j hj
      · rw [sI_ne (by omega), wO _ _ (by omega) (by omega)]; exact tfr x y h
    rw [← hW, w5]
    by_cases gk : eK b q = 1
    · rw [if_pos gk, W2, g16, bnd_s]
      exact ⟨_, rfl, fin _ (fun _ => rfl)⟩
    · rw [if_neg gk, bnd_s]
      exact ⟨_, rfl, fin _ (fun z => absurd z gk)⟩
  · have hK : eK b q = 2 := by
      unfold eK
      rw [if_neg gf]
    have hD' : eD b q = 0 := by unfold eD; rw [if_neg gf]
    have hS' : eS b q = 0 := by unfold eS; rw [if_neg gf]
    have hf1 : (fo b q).toInt = 1 := by
      rcases hfo with z | z
      · exact absurd (show fo b q = 0 by rw [eqc, t3_0]; exact z) gf
      · exact z
    have hd0 : dn b q = 0 := by
      have := (h5.2.1 hf1).1
      unfold dn
      rw [this]
      rfl
    rw [if_pos hK]
    refine ⟨T, rfl, ⟨⟨t5, t6, t7, ?_, t9, ?_, ?_, ?_, ?_, t14, t15, t16, t17⟩, tn, fun k => ?_, t22, t23, t24⟩, T2, tfr⟩
    · rw [hd0]; exact t8 8 (by omega)
    · rw [hD']; exact t8 10 (by omega)
    · rw [hD']; exact t8 11 (by omega)
    · intro z; rw [hK] at z; exact absurd z (by decide)
    · rw [hS']; exact t8 13 (by omega)
    · rw [hd0, if_neg (by omega), tF _ _ (by omega) (by omega)]
      exact up _ _ (by omega) (by omega)
