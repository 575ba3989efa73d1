/-! ONE ENTRY TAKEN, by the reference -/
def kkY (x1 x2 x4 : Int32) (M51 : Me) : Option (Unit × Me) := chk x1 (ln (rf 91 20)) (bnd (sI M51 (rf 91 20) x1.toNatClampNeg ((M51.2 91 41).toInt32)) (fun M52 => if x4 = (0 : Int32) then chk x1 (ln (rf 91 14)) (bnd (sI M52 (rf 91 14) x1.toNatClampNeg (vp_nar .boolean (1 : Int32))) (fun M53 => chk x1 (ln (rf 91 15)) (bnd (sI M53 (rf 91 15) x1.toNatClampNeg ((M53.2 91 39).toInt32)) (fun M54 => l_X5_takeRow_459 (fun v60 M61 => chk x1 (ln (rf 91 17)) (bnd (sI M61 (rf 91 17) x1.toNatClampNeg ((M61.2 91 40).toInt32)) (fun M62 => cal (f_X5_four M62 91 (x2 + (16 : Int32))) (fun r63 M64 => chk x1 (ln (rf 91 18)) (bnd (sI M64 (rf 91 18) x1.toNatClampNeg r63.toInt32) (fun M65 => chk x1 (ln (rf 91 19)) (bnd (sI M65 (rf 91 19) x1.toNatClampNeg (vp_nar .boolean (1 : Int32))) (fun M66 => some ((), M66))))))))) 91 x1 x2 (0 : Int32) M54)))) else some ((), M52)))
def kk2Y (x1 x2 x3 x4 : Int32) (M30 : Me) : Option (Unit × Me) := bndV ((M30.1 91 34) + (M30.1 91 35)) (fun v31 => if (M30.1 91 37) = (0 : Int32) then l_X5_takeRow_290 (fun _ M51 => kkY x1 x2 x4 M51) 91 x1 x2 x4 v31 M30 else if x3 = (0 : Int32) then l_X5_takeRow_290 (fun _ M51 => kkY x1 x2 x4 M51) 91 x1 x2 x4 v31 M30 else cal (f_X5_eight M30 91 (v31 + (4 : Int32))) (fun r79 M80 => bnd (sL M80 91 40 r79) (fun M81 => cal (f_X5_eight M81 91 (v31 + (12 : Int32))) (fun r82 M83 => bnd (sL M83 91 39 r82) (fun M84 => bndV (v31 + (20 : Int32)) (fun v85 => l_X5_takeRow_290 (fun _ M51 => kkY x1 x2 x4 M51) 91 x1 x2 x4 v85 M84))))))
theorem j144_eq (x1 x2 x3 x4 s0 s1 : Int32) (s2 : Nat) (M : Me) : j_X5_takeRow_144 91 x1 x2 x3 x4 s0 s1 s2 M = chk s1 (ln s2) (bnd (sI M s2 s1.toNatClampNeg s0) (fun M15 => cal (f_X5_two M15 91 (x2 + (12 : Int32))) (fun r16 M17 => chk x1 (ln (rf 91 7)) (bnd (sI M17 (rf 91 7) x1.toNatClampNeg r16) (fun M18 => cal (f_X5_two M18 91 (x2 + (14 : Int32))) (fun r19 M20 => chk x1 (ln (rf 91 8)) (bnd (sI M20 (rf 91 8) x1.toNatClampNeg r19) (fun M21 => cal (f_X5_four M21 91 (x2 + (38 : Int32))) (fun r22 M23 => chk x1 (ln (rf 91 9)) (bnd (sI M23 (rf 91 9) x1.toNatClampNeg r22.toInt32) (fun M24 => chk x1 (ln (rf 91 6)) (bnd (sI M24 (rf 91 6) x1.toNatClampNeg (M24.1 91 35)) (fun M25 => l_X5_takeRow_201 (fun _ M30 => kk2Y x1 x2 x3 x4 M30) 91 x1 x2 x3 x4 (0 : Int32) M25))))))))))))) := rfl
def scl (a : Nat) : Prop := a = 92 ∨ a = 93 ∨ (95 ≤ a ∧ a ≤ 99) ∨ a = 103 ∨ a = 104 ∨ (106 ≤ a ∧ a ≤ 109)
def own (i a k : Nat) : Prop := (scl a ∧ k = i) ∨ (a = 94 ∧ 16 * i ≤ k ∧ k < 16 * i + 16) ∨ (a = 105 ∧ 40 * i ≤ k ∧ k < 40 * i + 40) ∨ ((a = 100 ∨ a = 101) ∧ 3 * i ≤ k ∧ k < 3 * i + 3) ∨ (a = 102 ∧ 24 * i ≤ k ∧ k < 24 * i + 24)
/-- what stands in an entry that was taken from the row at q, in the reference's layout -/
def EV (σ' σ : Nat → Nat → Int32) (b : Nat → Nat) (q i m : Nat) : Prop := (σ' 92 i = eK b q ∧ σ' 93 i = eG b q ∧ σ' 95 i = nI (rN b q) ∧ σ' 104 i = nI (dn b q) ∧ σ' 99 i = nI m ∧ σ' 103 i = eD b q ∧ σ' 108 i = eD b q ∧ (eK b q = 1 → σ' 106 i = (tsv b q).toInt32) ∧ σ' 107 i = eS b q ∧ σ' 96 i = nI (nm b (q + 12) 2) ∧ σ' 97 i = nI (nm b (q + 14) 2) ∧ σ' 98 i = nI (nm b (q + 38) 4) ∧ σ' 109 i = nI (lcl b q)) ∧ (∀ k, k < 16 → σ' 94 (16 * i + k) = if k < rN b q then nI (b (q + 46 + k)) else σ 94 (16 * i + k)) ∧ (∀ k, k < 40 → σ' 105 (40 * i + k) = if k < dn b q then nI (b (dp b q + k)) else σ 105 (40 * i + k)) ∧ (∀ p, p < 3 → σ' 100 (3 * i + p) = if p < m then nI (nm b (pl_ b q p) 2) else σ 100 (3 * i + p)) ∧ (∀ p, p < 3 → σ' 101 (3 * i + p) = if p < m then nI (pn b q p) else σ 101 (3 * i + p)) ∧ (∀ p j, p < 3 → j < 8 → σ' 102 (24 * i + (8 * p + j)) = if p < m ∧ j < pn b q p then nI (b (pl_ b q p + 4 + j)) else σ 102 (24 * i + (8 * p + j)))
theorem cpt_if {f : Nat → Int32} {M : Me} {r t : Nat} {b : Nat → Nat} {p n k : Nat} : (cp f M r t b p n).1 r (t + k) = if k < n then f (b (p + k)) else M.1 r (t + k) := by
  by_cases h : k < n
  · rw [if_pos h]
    exact cp_at n k h
  · rw [if_neg h, cp_ne _ (by omega)]
theorem f_begY {M : Me} {i : Nat} (hi : i < 12) : ∃ C, f_X5_begin M 91 (nI i) = some ((), C) ∧ C.2 = M.2 ∧ (∀ a, ((95 ≤ a ∧ a ≤ 99) ∨ a = 103 ∨ a = 104 ∨ (106 ≤ a ∧ a ≤ 108)) → C.1 a i = 0) ∧ ∀ x y, ¬ (scl x ∧ y = i) → C.1 x y = M.1 x y := by
  have hck : ∀ {γ : Type} (a : Nat) (X : Option γ), ln a = 12 → chk (nI i) (ln a) X = X := fun a X h => chk_n X (by rw [h]; omega) (by rw [h]; decide)
  unfold f_X5_begin
  rw [rf_91_6, rf_91_7, rf_91_8, rf_91_9, rf_91_10, rf_91_14, rf_91_15, rf_91_17, rf_91_18, rf_91_19, rf_91_20, hck 95 _ rfl, bnd_s, hck 96 _ rfl, bnd_s, hck 97 _ rfl, bnd_s, hck 98 _ rfl, bnd_s, hck 99 _ rfl, bnd_s, hck 103 _ rfl, bnd_s, hck 104 _ rfl, bnd_s, hck 106 _ rfl, bnd_s, hck 107 _ rfl, bnd_s, hck 108 _ rfl, bnd_s, hck 109 _ rfl, bnd_s, nI_clamp (by omega), nz_0]
  obtain ⟨A, hA⟩ : ∃ A, A = sI (sI (sI (sI (sI (sI M 95 i 0) 96 i 0) 97 i 0) 98 i 0) 99 i 0) 103 i 0 := ⟨_, rfl⟩
  rw [← hA]
  refine ⟨_, rfl, by rw [hA]; rfl, fun a ha => ?_, fun x y h => ?_⟩
  · rcases (show a = 95 ∨ a = 96 ∨ a = 97 ∨ a = 98 ∨ a = 99 ∨ a = 103 ∨ a = 104 ∨ a = 106 ∨ a = 107 ∨ a = 108 by omega) with e | e | e | e | e | e | e | e | e | e <;> subst e <;> rw [hA] <;> simp (disch := omega) only [sI_ne, sI_eq]
  · unfold scl at h
    rw [hA]
    simp (disch := omega) only [sI_ne]
theorem y_201 {N : Me} {b : Nat → Nat} {i s n : Nat} {x2 x3 x4 : Int32} (kx : Int32 → Me → Option (Unit × Me)) (hy : BYr N b) (hi : i < 12) (h34 : N.1 91 34 = nI s) (h35 : N.1 91 35 = nI n) (hn : n ≤ 16) (hs : s ≤ 2000) : l_X5_takeRow_201 kx 91 (nI i) x2 x3 x4 0 N = kx (nI n) (cp nI N 94 (16 * i) b s n) := by
  unfold l_X5_takeRow_201
  refine lp_for _ (fun k => cp nI N 94 (16 * i) b s k) n _ (fun kb k hk => ?_) (fun kb => ?_) FU 0 (by omega) (by unfold FU; omega)
  · show g_X5_takeRow_201 _ kb 91 (nI i) x2 x3 x4 (nI k) (cp nI N 94 (16 * i) b s k) = kb (nI (k + 1), sI (cp nI N 94 (16 * i) b s k) 94 (16 * i + k) (nI (b (s + k))))
    unfold g_X5_takeRow_201
    rw [cp_ne k (by omega), h35, if_neg (nI_ge hk (by omega)), cp_ne k (by omega), h34, nI_add, rf_91_23, rf_91_5, mu_16, nI_add, chk_n _ (show s + k < ln 111 by rw [ln_111]; omega) (by decide), chk_n _ (show 16 * i + k < ln 94 by rw [ln_94]; omega) (by decide), bnd_s, bndV_s, nI_1, nI_clamp (by omega), nI_clamp (by omega), cp_ne k (by omega), hy _ (by omega)]
  · show g_X5_takeRow_201 _ kb 91 (nI i) x2 x3 x4 (nI n) (cp nI N 94 (16 * i) b s n) = _
    unfold g_X5_takeRow_201
    rw [cp_ne n (by omega), h35, if_pos (nI_le (Nat.le_refl n) (by omega))]
theorem y_459 {N : Me} {b : Nat → Nat} {i l r e n : Nat} {x2 : Int32} (kx : Int32 → Me → Option (Unit × Me)) (hy : BYr N b) (hi : i < 12) (h104 : N.1 104 i = nI n) (h109 : N.1 109 i = nI l) (h35 : N.1 91 35 = nI r) (h36 : N.1 91 36 = nI e) (hn : n ≤ 40) (hs : l + 30 + r + e + n ≤ 2100) : l_X5_takeRow_459 kx 91 (nI i) x2 0 N = kx (nI n) (cp nI N 105 (40 * i) b (l + 30 + r + e) n) := by
  unfold l_X5_takeRow_459
  have h12 : ∀ {γ : Type} (a : Nat) (X : Option γ), ln a = 12 → chk (nI i) (ln a) X = X := fun a X h => chk_n X (by rw [h]; omega) (by rw [h]; decide)
  refine lp_for _ (fun k => cp nI N 105 (40 * i) b (l + 30 + r + e) k) n _ (fun kb k hk => ?_) (fun kb => ?_) FU 0 (by omega) (by unfold FU; omega)
  · show g_X5_takeRow_459 _ kb 91 (nI i) x2 (nI k) (cp nI N 105 (40 * i) b (l + 30 + r + e) k) = kb (nI (k + 1), sI (cp nI N 105 (40 * i) b (l + 30 + r + e) k) 105 (40 * i + k) (nI (b (l + 30 + r + e + k))))
    unfold g_X5_takeRow_459
    rw [rf_91_15, rf_91_20, rf_91_23, rf_91_16, h12 104 _ rfl, h12 109 _ rfl, nI_clamp (by omega), cp_ne k (by omega), h104, if_neg (nI_ge hk (by omega)), cp_ne k (by omega), h109, cp_ne k (by omega), h35, cp_ne k (by omega), h36, show (30 : Int32) = nI 30 from rfl, nI_add, nI_add, nI_add, nI_add, mu_40, nI_add, chk_n _ (show l + 30 + r + e + k < ln 111 by rw [ln_111]; omega) (by decide), chk_n _ (show 40 * i + k < ln 105 by rw [ln_105]; omega) (by decide), bnd_s, bndV_s, nI_1, nI_clamp (by omega), nI_clamp (by omega), cp_ne k (by omega), hy _ (by omega)]
  · show g_X5_takeRow_459 _ kb 91 (nI i) x2 (nI n) (cp nI N 105 (40 * i) b (l + 30 + r + e) n) = _
    unfold g_X5_takeRow_459
    rw [rf_91_15, h12 104 _ rfl, nI_clamp (by omega), cp_ne n (by omega), h104, if_pos (nI_le (Nat.le_refl n) (by omega))]
theorem y_352 {N : Me} {b : Nat → Nat} {v p n : Nat} {x1 x2 x4 : Int32} (kx : Int32 → Me → Option (Unit × Me)) (hy : BYr N b) (hv : v < 36) (h101 : N.1 101 v = nI n) (hn : n ≤ 8) (hs : p + 4 + n ≤ 2100) : l_X5_takeRow_352 kx 91 x1 x2 x4 (nI p) (nI v) 0 N = kx (nI n) (cp nI N 102 (8 * v) b (p + 4) n) := by
  unfold l_X5_takeRow_352
  have h36 : ∀ {γ : Type} (X : Option γ), chk (nI v) (ln 101) X = X := fun X => chk_n X (by rw [ln_101]; omega) (by decide)
  refine lp_for _ (fun k => cp nI N 102 (8 * v) b (p + 4) k) n _ (fun kb k hk => ?_) (fun kb => ?_) FU 0 (by omega) (by unfold FU; omega)
  · show g_X5_takeRow_352 _ kb 91 x1 x2 x4 (nI p) (nI v) (nI k) (cp nI N 102 (8 * v) b (p + 4) k) = kb (nI (k + 1), sI (cp nI N 102 (8 * v) b (p + 4) k) 102 (8 * v + k) (nI (b (p + 4 + k))))
    unfold g_X5_takeRow_352
    rw [rf_91_12, rf_91_13, rf_91_23, h36, nI_clamp (show v < 2 ^ 31 by omega), cp_ne k (by omega), h101, if_neg (nI_ge hk (by omega)), show (4 : Int32) = nI 4 from rfl, nI_add, nI_add, mu_8, nI_add, chk_n _ (show p + 4 + k < ln 111 by rw [ln_111]; omega) (by decide), chk_n _ (show 8 * v + k < ln 102 by rw [ln_102]; omega) (by decide), bnd_s, bndV_s, nI_1, nI_clamp (by omega), nI_clamp (by omega), cp_ne k (by omega), hy _ (by omega)]
  · show g_X5_takeRow_352 _ kb 91 x1 x2 x4 (nI p) (nI v) (nI n) (cp nI N 102 (8 * v) b (p + 4) n) = _
    unfold g_X5_takeRow_352
    rw [rf_91_12, h36, nI_clamp (show v < 2 ^ 31 by omega), cp_ne n (by omega), h101, if_pos (nI_le (Nat.le_refl n) (by omega))]
def ptY (N : Me) (b : Nat → Nat) (i u : Nat) : Nat → Me
  | 0 => N
  | k + 1 => sI (cp nI (sI (sI (ptY N b i u k) 100 (3 * i + k) (nI (nm b (pp b u k) 2))) 101 (3 * i + k) (nI (nm b (pp b u k + 2) 2))) 102 (8 * (3 * i + k)) b (pp b u k + 4) (nm b (pp b u k + 2) 2)) 99 i (nI (k + 1))
theorem ptY_2 {N : Me} {b : Nat → Nat} {i u : Nat} : ∀ k, (ptY N b i u k).2 = N.2
  | 0 => rfl
  | k + 1 => by
    show (cp nI _ _ _ _ _ _).2 = _
    rw [cp_2]
    exact ptY_2 k
theorem ptY_99 {N : Me} {b : Nat → Nat} {i u : Nat} (h : N.1 99 i = 0) : ∀ k, (ptY N b i u k).1 99 i = nI k
  | 0 => h
  | k + 1 => sI_eq
theorem ptY_ne {N : Me} {b : Nat → Nat} {i u x y : Nat} (h : ¬ (x = 99 ∧ y = i)) (h2 : x ≠ 100) (h3 : x ≠ 101) (h4 : x ≠ 102) : ∀ k, (ptY N b i u k).1 x y = N.1 x y
  | 0 => rfl
  | k + 1 => by
    show (sI _ _ _ _).1 x y = _
    rw [sI_ne h, cp_ne _ (by omega), sI_ne (by omega), sI_ne (by omega)]
    exact ptY_ne h h2 h3 h4 k
theorem ptY_100 {N : Me} {b : Nat → Nat} {i u y : Nat} : ∀ k, (ptY N b i u k).1 100 y = if 3 * i ≤ y ∧ y < 3 * i + k then nI (nm b (pp b u (y - 3 * i)) 2) else N.1 100 y
  | 0 => by rw [if_neg (by omega)]; rfl
  | k + 1 => by
    show (sI _ _ _ _).1 _ _ = _
    rw [sI_ne (by omega), cp_ne _ (by omega), sI_ne (by omega)]
    by_cases q : y = 3 * i + k
    · subst q
      rw [sI_eq, if_pos (by omega), show 3 * i + k - 3 * i = k by omega]
    · rw [sI_ne (by omega), ptY_100 k]
      by_cases z : 3 * i ≤ y ∧ y < 3 * i + k
      · rw [if_pos z, if_pos (by omega)]
      · rw [if_neg z, if_neg (by omega)]
theorem ptY_101 {N : Me} {b : Nat → Nat} {i u y : Nat} : ∀ k, (ptY N b i u k).1 101 y = if 3 * i ≤ y ∧ y < 3 * i + k then nI (nm b (pp b u (y - 3 * i) + 2) 2) else N.1 101 y
  | 0 => by rw [if_neg (by omega)]; rfl
  | k + 1 => by
    show (sI _ _ _ _).1 _ _ = _
    rw [sI_ne (by omega), cp_ne _ (by omega)]
    by_cases q : y = 3 * i + k
    · subst q
      rw [sI_eq, if_pos (by omega), show 3 * i + k - 3 * i = k by omega]
    · rw [sI_ne (by omega), sI_ne (by omega), ptY_101 k]
      by_cases z : 3 * i ≤ y ∧ y < 3 * i + k
      · rw [if_pos z, if_pos (by omega)]
      · rw [if_neg z, if_neg (by omega)]
theorem ptY_102 {N : Me} {b : Nat → Nat} {i u p j : Nat} (hj : j < 8) : ∀ k, (∀ l, l < k → nm b (pp b u l + 2) 2 ≤ 8) → (ptY N b i u k).1 102 (24 * i + (8 * p + j)) = if p < k ∧ j < nm b (pp b u p + 2) 2 then nI (b (pp b u p + 4 + j)) else N.1 102 (24 * i + (8 * p + j))
  | 0, _ => by rw [if_neg (by omega)]; rfl
  | k + 1, hk => by
    have hl := hk k (by omega)
    show (sI _ _ _ _).1 _ _ = _
    rw [sI_ne (by omega)]
    by_cases q : p = k
    · subst q
      by_cases z : j < nm b (pp b u p + 2) 2
      · rw [if_pos ⟨by omega, z⟩, show 24 * i + (8 * p + j) = 8 * (3 * i + p) + j by omega, cp_at _ _ z]
      · rw [if_neg (by omega), cp_ne _ (by omega), sI_ne (by omega), sI_ne (by omega), ptY_102 hj p (fun l h => hk l (by omega)), if_neg (by omega)]
    · rw [cp_ne _ (by omega), sI_ne (by omega), sI_ne (by omega), ptY_102 hj k (fun l h => hk l (by omega))]
      by_cases z : p < k ∧ j < nm b (pp b u p + 2) 2
      · rw [if_pos z, if_pos (by omega)]
      · rw [if_neg z, if_neg (by omega)]
theorem ptY_102o {N : Me} {b : Nat → Nat} {i u y : Nat} (hy : ¬ (24 * i ≤ y ∧ y < 24 * i + 24)) : ∀ k, k ≤ 3 → (∀ l, l < k → nm b (pp b u l + 2) 2 ≤ 8) → (ptY N b i u k).1 102 y = N.1 102 y
  | 0, _, _ => rfl
  | k + 1, h3, hk => by
    have hl := hk k (by omega)
    show (sI _ _ _ _).1 _ _ = _
    rw [sI_ne (by omega), cp_ne _ (by omega), sI_ne (by omega), sI_ne (by omega)]
    exact ptY_102o hy k (by omega) (fun l h => hk l (by omega))
theorem y_290 {N : Me} {b : Nat → Nat} {i s n e u t m : Nat} {x2 x4 : Int32} (kx : Int32 → Me → Option (Unit × Me)) (hb : Bb b) (hy : BYr N b) (hi : i < 12) (h34 : N.1 91 34 = nI s) (h35 : N.1 91 35 = nI n) (h36 : N.1 91 36 = nI e) (ht : t = s + n + e) (ht2 : t ≤ 2000) (h99 : N.1 99 i = 0) (hp : prt b u t m) : l_X5_takeRow_290 kx 91 (nI i) x2 x4 (nI u) N = kx (nI t) (ptY N b i u m) := by
  obtain ⟨hm, hpe, hgp⟩ := hp
  have h12 : ∀ {γ : Type} (a : Nat) (X : Option γ), ln a = 12 → chk (nI i) (ln a) X = X := fun a X h => chk_n X (by rw [h]; omega) (by rw [h]; decide)
  have keep : ∀ k y, (ptY N b i u k).1 91 y = N.1 91 y := fun k y => ptY_ne (by omega) (by omega) (by omega) (by omega) k
  unfold l_X5_takeRow_290
  refine lp_run _ (fun k => (nI (pp b u k), ptY N b i u k)) m _ (fun kb k hk => ?_) (fun kb => ?_) FU 0 (by omega) (by unfold FU; omega)
  · show g_X5_takeRow_290 _ kb 91 (nI i) x2 x4 (nI (pp b u k)) (ptY N b i u k) = kb (nI (pp b u k + (4 + nm b (pp b u k + 2) 2)), ptY N b i u (k + 1))
    have h1 := pp_4 (b := b) (s := u) hk
    have hlen := (hgp k hk).2
    have h99k := ptY_99 (b := b) (u := u) h99 k
    have hyk : BYr (ptY N b i u k) b := hy.same (fun y => ptY_ne (by omega) (by omega) (by omega) (by omega) k)
    have eS : ptY N b i u (k + 1) = sI (cp nI (sI (sI (ptY N b i u k) 100 (3 * i + k) (nI (nm b (pp b u k) 2))) 101 (3 * i + k) (nI (nm b (pp b u k + 2) 2))) 102 (8 * (3 * i + k)) b (pp b u k + 4) (nm b (pp b u k + 2) 2)) 99 i (nI (k + 1)) := rfl
    rw [eS]
    have k34 := (keep k 34).trans h34
    have k35 := (keep k 35).trans h35
    have k36 := (keep k 36).trans h36
    obtain ⟨A, hA⟩ : ∃ A, A = ptY N b i u k := ⟨_, rfl⟩
    rw [← hA] at hyk h99k k34 k35 k36 ⊢
    unfold g_X5_takeRow_290
    rw [k34, k35, k36, nI_add, nI_add, if_neg (nI_ge (show pp b u k < s + n + e by omega) (by omega)), rf_91_10, rf_91_11, rf_91_12, h12 99 _ rfl, nI_clamp (show i < 2 ^ 31 by omega), h99k, mu_3, nI_add, bndV_s, f_two hb hyk (by omega), cal_s, chk_n _ (show 3 * i + k < ln 100 by rw [ln_100]; omega) (by decide), bnd_s, nI_clamp (show 3 * i + k < 2 ^ 31 by omega)]
    have yB : BYr (sI A 100 (3 * i + k) (nI (nm b (pp b u k) 2))) b := hyk.up (by omega)
    rw [show (2 : Int32) = nI 2 from rfl, nI_add, f_two hb yB (by omega), cal_s, chk_n _ (show 3 * i + k < ln 101 by rw [ln_101]; omega) (by decide), bnd_s]
    obtain ⟨C, hC⟩ : ∃ C, C = sI (sI A 100 (3 * i + k) (nI (nm b (pp b u k) 2))) 101 (3 * i + k) (nI (nm b (pp b u k + 2) 2)) := ⟨_, rfl⟩
    have yC : BYr C b := by rw [hC]; exact yB.up (by omega)
    have c101 : C.1 101 (3 * i + k) = nI (nm b (pp b u k + 2) 2) := by rw [hC, sI_eq]
    have c99 : C.1 99 i = nI k := by rw [hC, sI_ne (by omega), sI_ne (by omega)]; exact h99k
    rw [← hC, y_352 _ yC (by omega) c101 hlen (by omega)]
    rw [h12 99 _ rfl, h12 99 _ rfl, bnd_s, cp_ne _ (by omega), c99, nI_1, chk_n _ (show 3 * i + k < ln 101 by rw [ln_101]; omega) (by decide), sI_ne (by omega), cp_ne _ (by omega), c101, show (4 : Int32) = nI 4 from rfl, nI_add, nI_add, bndV_s]
  · show g_X5_takeRow_290 _ kb 91 (nI i) x2 x4 (nI (pp b u m)) (ptY N b i u m) = _
    unfold g_X5_takeRow_290
    rw [keep, keep, keep, h34, h35, h36, nI_add, nI_add, if_pos (nI_le (by omega) (by omega)), hpe]
theorem y_kk {P : Me} {b : Nat → Nat} {i q : Nat} {x4 : Int32} (hb : Bb b) (hy : BYr P b) (hi : i < 12) (hq : q + 46 ≤ 2000) (h5 : C5 b q) (h35 : P.1 91 35 = nI (rN b q)) (h36 : P.1 91 36 = nI (rE b q)) (h39 : P.2 91 39 = psz b q) (h40 : P.2 91 40 = tsv b q) (h41 : P.2 91 41 = lN (lcl b q)) (hl : dp b q + dn b q ≤ 2100) : ∃ Q, kkY (nI i) (nI q) x4 P = some ((), Q) ∧ Q.1 109 i = nI (lcl b q) ∧ (x4 = 0 → Q.1 103 i = 1 ∧ Q.1 104 i = nI (dn b q) ∧ Q.1 106 i = (tsv b q).toInt32 ∧ Q.1 107 i = nI (nm b (q + 16) 4) ∧ Q.1 108 i = 1 ∧ ∀ k, Q.1 105 (40 * i + k) = if k < dn b q then nI (b (dp b q + k)) else P.1 105 (40 * i + k)) ∧ (¬ x4 = 0 → ∀ x y, ¬ (x = 109 ∧ y = i) → Q.1 x y = P.1 x y) ∧ ∀ x y, ¬ ((x = 103 ∨ x = 104 ∨ (106 ≤ x ∧ x ≤ 109)) ∧ y = i) → ¬ (x = 105 ∧ 40 * i ≤ y ∧ y < 40 * i + 40) → Q.1 x y = P.1 x y := by
  have h12 : ∀ {γ : Type} (a : Nat) (X : Option γ), ln a = 12 → chk (nI i) (ln a) X = X := fun a X h => chk_n X (by rw [h]; omega) (by rw [h]; decide)
  obtain ⟨e15, hdn⟩ := psz_dn h5
  have hdp : dp b q = lcl b q + 30 + rN b q + rE b q := rfl
  unfold kkY
  rw [rf_91_20, h12 109 _ rfl, bnd_s, nI_clamp (show i < 2 ^ 31 by omega), h41, lN_i]
  obtain ⟨R, hR⟩ : ∃ R, R = sI P 109 i (nI (lcl b q)) := ⟨_, rfl⟩
  have R2 : R.2 = P.2 := by rw [hR]; rfl
  have r109 : R.1 109 i = nI (lcl b q) := by rw [hR, sI_eq]
  have rF : ∀ x y, ¬ (x = 109 ∧ y = i) → R.1 x y = P.1 x y := fun x y h => by rw [hR, sI_ne h]
  rw [← hR]
  by_cases g : x4 = 0
  · rw [if_pos g, rf_91_14, h12 103 _ rfl, bnd_s, nz_1, rf_91_15, h12 104 _ rfl, bnd_s, sI_2, R2, h39, e15, lN_i]
    obtain ⟨U, hU⟩ : ∃ U, U = sI (sI R 103 i 1) 104 i (nI (dn b q)) := ⟨_, rfl⟩
    have U2 : U.2 = P.2 := by rw [hU]; exact R2
    have uF : ∀ x y, ¬ ((x = 103 ∨ x = 104) ∧ y = i) → U.1 x y = R.1 x y := fun x y h => by rw [hU, sI_ne (by omega), sI_ne (by omega)]
    have yU : BYr U b := hy.same (fun y => by rw [uF _ _ (by omega), rF _ _ (by omega)])
    have u104 : U.1 104 i = nI (dn b q) := by rw [hU, sI_eq]
    have u103 : U.1 103 i = 1 := by rw [hU, sI_ne (by omega), sI_eq]
    have u109 : U.1 109 i = nI (lcl b q) := by rw [uF _ _ (by omega)]; exact r109
    rw [← hU, y_459 _ yU hi u104 u109 (by rw [uF _ _ (by omega), rF _ _ (by omega)]; exact h35) (by rw [uF _ _ (by omega), rF _ _ (by omega)]; exact h36) hdn (by omega)]
    rw [← hdp]
    obtain ⟨V, hV⟩ : ∃ V, V = cp nI U 105 (40 * i) b (dp b q) (dn b q) := ⟨_, rfl⟩
    have V2 : V.2 = P.2 := by rw [hV, cp_2]; exact U2
    have vF : ∀ x y, ¬ (x = 105 ∧ 40 * i ≤ y ∧ y < 40 * i + 40) → V.1 x y = U.1 x y := fun x y h => by rw [hV, cp_ne _ (by omega)]
    rw [← hV, rf_91_17, h12 106 _ rfl, bnd_s, V2, h40]
    obtain ⟨W, hW⟩ : ∃ W, W = sI V 106 i (tsv b q).toInt32 := ⟨_, rfl⟩
    have wF : ∀ x y, ¬ (x = 106 ∧ y = i) → W.1 x y = V.1 x y := fun x y h => by rw [hW, sI_ne h]
    have w106 : W.1 106 i = (tsv b q).toInt32 := by rw [hW, sI_eq]
    have yW : BYr W b := yU.same (fun y => by rw [wF _ _ (by omega), vF _ _ (by omega)])
    rw [← hW, show (16 : Int32) = nI 16 from rfl, nI_add, f_four hb yW (by omega), cal_s, rf_91_18, h12 107 _ rfl, bnd_s, rf_91_19, h12 108 _ rfl, bnd_s, lN_i]
    obtain ⟨Q, hQ⟩ : ∃ Q, Q = sI (sI W 107 i (nI (nm b (q + 16) 4))) 108 i 1 := ⟨_, rfl⟩
    have qF : ∀ x y, ¬ ((x = 107 ∨ x = 108) ∧ y = i) → Q.1 x y = W.1 x y := fun x y h => by rw [hQ, sI_ne (by omega), sI_ne (by omega)]
    rw [← hQ]
    refine ⟨Q, rfl, ?_, fun _ => ⟨?_, ?_, ?_, ?_, ?_, fun k => ?_⟩, fun z => absurd g z, fun x y h1 h2 => ?_⟩
    · rw [qF _ _ (by omega), wF _ _ (by omega), vF _ _ (by omega)]; exact u109
    · rw [qF _ _ (by omega), wF _ _ (by omega), vF _ _ (by omega)]; exact u103
    · rw [qF _ _ (by omega), wF _ _ (by omega), vF _ _ (by omega)]; exact u104
    · rw [qF _ _ (by omega)]; exact w106
    · rw [hQ, sI_ne (by omega), sI_eq]
    · rw [hQ, sI_eq]
    · rw [qF _ _ (by omega), wF _ _ (by omega), hV, cpt_if]
      by_cases z : k < dn b q
      · rw [if_pos z, if_pos z]
      · rw [if_neg z, if_neg z, uF _ _ (by omega), rF _ _ (by omega)]
    · rw [qF _ _ (by omega), wF _ _ (by omega), vF _ _ h2, uF _ _ (by omega), rF _ _ (by omega)]
  · rw [if_neg g]
    exact ⟨R, rfl, r109, fun z => absurd z g, fun _ => rF, fun x y h1 _ => rF x y (by omega)⟩
theorem f_tkY {M : Me} {b : Nat → Nat} {cf i q m : Nat} (hb : Bb b) (hy : BYr M b) (hi : i < 12) (h112 : M.1 112 i = nI q) (hp : prt b (pq b q) (nxt b q) m) (hnx : nxt b q ≤ 2000) (hc : cf ≤ 2000) (h4 : C4 b q) (h5 : C5 b q) (h6 : C6 b cf q) (h8 : C8 b cf q) : ∃ M', f_X5_takeRow M 91 (nI i) = some ((), M') ∧ EV M'.1 M.1 b q i m ∧ ∀ x y, ¬ (x = 91 ∧ 34 ≤ y ∧ y ≤ 38) → ¬ own i x y → M'.1 x y = M.1 x y := by
  have h12 : ∀ {γ : Type} (a : Nat) (X : Option γ), ln a = 12 → chk (nI i) (ln a) X = X := fun a X h => chk_n X (by rw [h]; omega) (by rw [h]; decide)
  have hnx2 : nxt b q = q + 46 + rN b q + rE b q := rfl
  have hrS : rS b q = q + 46 + rN b q := rfl
  have hdp : dp b q = lcl b q + 30 + rN b q + rE b q := rfl
  have hre := c4_re h4
  have h6a := h6.1
  have h8a := h8.1
  have hle : lend b q = dp b q + dn b q + (if flg b q = 8 then 16 else 0) := rfl
  have hn1 := h4.1.2.2.1
  have hn16 := h4.1.2.2.2
  have em : nm b (q + 10) 2 = mth b q := rfl
  have ef : nm b (q + 8) 2 = flg b q := rfl
  have hm := n2_lt hb (q + 10)
  have hfl := n2_lt hb (q + 8)
  rw [em] at hm
  rw [ef] at hfl
  obtain ⟨e15, hdn⟩ := psz_dn h5
  obtain ⟨A, eA, lA, kA⟩ := f_lay (q := q) hb hy (by omega)
  obtain ⟨B, kB, sB, sB2, tB, _⟩ := f_hP (M := A) (q := q) hb (kA.by hy) hnx
  obtain ⟨eB, b37⟩ := tB ⟨m, hp⟩
  obtain ⟨C, eC', C2, c0, cF⟩ := f_begY (M := B) hi
  have c91 : ∀ y, C.1 91 y = B.1 91 y := fun y => cF 91 y (by unfold scl; omega)
  have c34 : C.1 91 34 = nI (q + 46) := ((c91 34).trans (sB 34 (by omega))).trans lA.1
  have c35 : C.1 91 35 = nI (rN b q) := ((c91 35).trans (sB 35 (by omega))).trans lA.2.1
  have c36 : C.1 91 36 = nI (rE b q) := ((c91 36).trans (sB 36 (by omega))).trans lA.2.2.1
  have c37 : C.1 91 37 = wq b q := (c91 37).trans b37
  have yC : BYr C b := (kB.by (kA.by hy)).same (fun y => cF 111 y (by unfold scl; omega))
  have C39 : C.2 91 39 = lN (nm b (q + 20) 4) := by rw [C2, sB2]; exact lA.2.2.2.1
  have C40 : C.2 91 40 = lN (nm b (q + 24) 4) := by rw [C2, sB2]; exact lA.2.2.2.2.1
  have C41 : C.2 91 41 = lN (lcl b q) := by rw [C2, sB2]; exact lA.2.2.2.2.2
  have cM : ∀ x y, ¬ (x = 91 ∧ 34 ≤ y ∧ y ≤ 38) → ¬ (scl x ∧ y = i) → C.1 x y = M.1 x y := fun x y h1 h2 => (cF x y h2).trans ((kB x y h1).trans (kA x y h1))
  have c8 : (nI (flg b q) = (8 : Int32)) = (flg b q = 8) := propext (nI_eq (b := 8) (by omega) (by decide))
  have m8 : (nI (mth b q) = (8 : Int32)) = (mth b q = 8) := propext (nI_eq (b := 8) (by omega) (by decide))
  have e47 : (nI (b (q + 46 + rN b q - 1)) = (47 : Int32)) ↔ b (q + 46 + rN b q - 1) = 47 := nI_bc hb _ 47 (by decide)
  have s1 : f_X5_takeRow M 91 (nI i) = j_X5_takeRow_71 91 (nI i) (nI q) 1 (fo b q) C := by
    unfold f_X5_takeRow
    have eB' : f_X5_hasParts A 91 (nI (q + 46 + rN b q)) (nI (q + 46 + rN b q + rE b q)) = some (1, B) := eB
    rw [rf_91_33, h12 112 _ rfl, nI_clamp (by omega), h112, bndV_s, eA, cal_s, lA.1, lA.2.1, lA.2.2.1, nI_add, nI_add, eB', cal_s, eC', cal_s, c34, c35, nI_add, su_1 (by omega), rf_91_23, chk_n _ (show q + 46 + rN b q - 1 < ln 111 by rw [ln_111]; omega) (by decide), nI_clamp (by omega), yC _ (by omega)]
    unfold fo
    by_cases g : b (q + 46 + rN b q - 1) = 47
    · rw [if_pos (e47.mpr g), if_pos ⟨by omega, g⟩]
    · rw [if_neg (fun z => g (e47.mp z)), if_neg (fun z => g z.2)]
  have s2 : j_X5_takeRow_71 91 (nI i) (nI q) 1 (fo b q) C = j_X5_takeRow_109 91 (nI i) (nI q) 1 (fo b q) (eK b q) (nI i) 92 C := by
    unfold j_X5_takeRow_71 eK
    rw [show (10 : Int32) = nI 10 from rfl, nI_add, f_two hb yC (by omega), cal_s, em, rf_91_3]
    simp only [m8]
    by_cases g : fo b q = 0
    · rw [if_pos g, if_pos g]
      by_cases g8 : mth b q = 8
      · rw [if_pos g8, if_pos g8]
      · rw [if_neg g8, if_neg g8]
    · rw [if_neg g, if_neg g]
  obtain ⟨D, hD⟩ : ∃ D, D = sI C 92 i (eK b q) := ⟨_, rfl⟩
  have yD : BYr D b := by rw [hD]; exact yC.up (by omega)
  have s3 : j_X5_takeRow_109 91 (nI i) (nI q) 1 (fo b q) (eK b q) (nI i) 92 C = j_X5_takeRow_144 91 (nI i) (nI q) 1 (fo b q) (eG b q) (nI i) 93 D := by
    unfold j_X5_takeRow_109 eG
    rw [h12 92 _ rfl, bnd_s, nI_clamp (by omega), ← hD, show (8 : Int32) = nI 8 from rfl, nI_add, f_two hb yD (by omega), cal_s, ef, rf_91_4, show D.1 91 37 = wq b q by rw [hD, sI_ne (by omega)]; exact c37, show nI 8 = (8 : Int32) from rfl]
    simp only [c8]
    by_cases g8 : flg b q = 8
    · rw [if_pos g8, if_pos g8]
    · rw [if_neg g8, if_neg g8]
      by_cases w0 : wq b q = 0
      · rw [if_pos w0, if_pos w0]
      · rw [if_neg w0, if_neg w0]
  obtain ⟨E, hE⟩ : ∃ E, E = sI (sI (sI (sI (sI D 93 i (eG b q)) 96 i (nI (nm b (q + 12) 2))) 97 i (nI (nm b (q + 14) 2))) 98 i (nI (nm b (q + 38) 4))) 95 i (nI (rN b q)) := ⟨_, rfl⟩
  have eF' : ∀ x y, ¬ ((x = 92 ∨ x = 93 ∨ (95 ≤ x ∧ x ≤ 98)) ∧ y = i) → E.1 x y = C.1 x y := fun x y h => by rw [hE, sI_ne (by omega), sI_ne (by omega), sI_ne (by omega), sI_ne (by omega), sI_ne (by omega), hD, sI_ne (by omega)]
  have E2 : E.2 = C.2 := by rw [hE, hD]; rfl
  have yE : BYr E b := yC.same (fun y => eF' 111 y (by omega))
  obtain ⟨F, hF⟩ : ∃ F, F = cp nI E 94 (16 * i) b (q + 46) (rN b q) := ⟨_, rfl⟩
  have fF' : ∀ x y, ¬ (x = 94 ∧ 16 * i ≤ y ∧ y < 16 * i + 16) → F.1 x y = E.1 x y := fun x y h => by rw [hF, cp_ne _ (by omega)]
  have F2 : F.2 = C.2 := by rw [hF, cp_2]; exact E2
  have f91 : ∀ y, F.1 91 y = C.1 91 y := fun y => (fF' 91 y (by omega)).trans (eF' 91 y (by omega))
  have yF : BYr F b := yE.same (fun y => fF' 111 y (by omega))
  have f99 : F.1 99 i = 0 := by rw [fF' _ _ (by omega), eF' _ _ (by omega)]; exact c0 99 (by omega)
  have s4 : ∃ G : Me, G.1 = F.1 ∧ G.2 91 39 = psz b q ∧ G.2 91 40 = tsv b q ∧ G.2 91 41 = lN (lcl b q) ∧ j_X5_takeRow_144 91 (nI i) (nI q) 1 (fo b q) (eG b q) (nI i) 93 D = kkY (nI i) (nI q) (fo b q) (ptY G b i (pq b q) m) := by
    have pre : j_X5_takeRow_144 91 (nI i) (nI q) 1 (fo b q) (eG b q) (nI i) 93 D = kk2Y (nI i) (nI q) 1 (fo b q) F := by
      rw [j144_eq]
      rw [h12 93 _ rfl, bnd_s, nI_clamp (by omega)]
      obtain ⟨D1, hD1⟩ : ∃ D1, D1 = sI D 93 i (eG b q) := ⟨_, rfl⟩
      have yD1 : BYr D1 b := by rw [hD1]; exact yD.up (by omega)
      rw [← hD1, show (12 : Int32) = nI 12 from rfl, nI_add, f_two hb yD1 (by omega), cal_s, rf_91_7, h12 96 _ rfl, bnd_s]
      obtain ⟨D2, hD2⟩ : ∃ D2, D2 = sI D1 96 i (nI (nm b (q + 12) 2)) := ⟨_, rfl⟩
      have yD2 : BYr D2 b := by rw [hD2]; exact yD1.up (by omega)
      rw [← hD2, show (14 : Int32) = nI 14 from rfl, nI_add, f_two hb yD2 (by omega), cal_s, rf_91_8, h12 97 _ rfl, bnd_s]
      obtain ⟨D3, hD3⟩ : ∃ D3, D3 = sI D2 97 i (nI (nm b (q + 14) 2)) := ⟨_, rfl⟩
      have yD3 : BYr D3 b := by rw [hD3]; exact yD2.up (by omega)
      rw [← hD3, show (38 : Int32) = nI 38 from rfl, nI_add, f_four hb yD3 (by omega), cal_s, rf_91_9, h12 98 _ rfl, bnd_s, lN_i]
      obtain ⟨D4, hD4⟩ : ∃ D4, D4 = sI D3 98 i (nI (nm b (q + 38) 4)) := ⟨_, rfl⟩
      have d435 : D4.1 91 35 = nI (rN b q) := by rw [hD4, hD3, hD2, hD1, hD, sI_ne (by omega), sI_ne (by omega), sI_ne (by omega), sI_ne (by omega), sI_ne (by omega)]; exact c35
      have hE' : E = sI D4 95 i (nI (rN b q)) := by rw [hE, hD4, hD3, hD2, hD1]
      rw [← hD4, rf_91_6, h12 95 _ rfl, d435, bnd_s, ← hE', y_201 _ yE hi (by rw [eF' _ _ (by omega)]; exact c34) (by rw [eF' _ _ (by omega)]; exact c35) hn16 (by omega), ← hF]
    rw [pre]
    unfold kk2Y
    rw [f91, f91, f91, c34, c35, c37, nI_add, bndV_s, ← hrS]
    by_cases hd : 20 ≤ rE b q ∧ nm b (rS b q) 2 = 1 ∧ nm b (rS b q + 2) 2 = 16
    · have e1 : wq b q = 1 := if_pos hd
      have e2 : pq b q = rS b q + 20 := if_pos hd
      have e3 : psz b q = lN (nm b (rS b q + 12) 8) := if_pos hd
      have e4 : tsv b q = lN (nm b (rS b q + 4) 8) := if_pos hd
      rw [e1, if_neg ne10, if_neg ne10, e3, e4, show (4 : Int32) = nI 4 from rfl, nI_add, f_eight hb yF (by omega), cal_s, bnd_s]
      obtain ⟨F1, hF1⟩ : ∃ F1, F1 = sL F 91 40 (lN (nm b (rS b q + 4) 8)) := ⟨_, rfl⟩
      have yF1 : BYr F1 b := by rw [hF1]; exact yF
      rw [← hF1, show (12 : Int32) = nI 12 from rfl, nI_add, f_eight hb yF1 (by omega), cal_s, bnd_s, show (20 : Int32) = nI 20 from rfl, nI_add, bndV_s, ← e2]
      obtain ⟨G, hG⟩ : ∃ G, G = sL F1 91 39 (lN (nm b (rS b q + 12) 8)) := ⟨_, rfl⟩
      have G1 : G.1 = F.1 := by rw [hG, hF1]; rfl
      refine ⟨G, G1, ?_, ?_, ?_, ?_⟩
      · rw [hG, sL_eq]
      · rw [hG, sL_ne (by omega), hF1, sL_eq]
      · rw [hG, sL_ne (by omega), hF1, sL_ne (by omega), F2]; exact C41
      · rw [← hG, y_290 (s := q + 46) (n := rN b q) (e := rE b q) (t := nxt b q) _ hb (by intro k hk; rw [G1]; exact yF k hk) hi (by rw [G1, f91]; exact c34) (by rw [G1, f91]; exact c35) (by rw [G1, f91]; exact c36) hnx2 hnx (by rw [G1]; exact f99) hp]
    · have e1 : wq b q = 0 := if_neg hd
      have e2 : pq b q = rS b q := if_neg hd
      have e3 : psz b q = lN (nm b (q + 20) 4) := if_neg hd
      have e4 : tsv b q = lN (nm b (q + 24) 4) := if_neg hd
      rw [e1, if_pos (show (0 : Int32) = 0 from rfl), e3, e4, ← e2]
      refine ⟨F, rfl, by rw [F2]; exact C39, by rw [F2]; exact C40, by rw [F2]; exact C41, ?_⟩
      rw [y_290 (s := q + 46) (n := rN b q) (e := rE b q) (t := nxt b q) _ hb yF hi (by rw [f91]; exact c34) (by rw [f91]; exact c35) (by rw [f91]; exact c36) hnx2 hnx f99 hp]
  obtain ⟨G, G1, G39, G40, G41, s4⟩ := s4
  obtain ⟨P, hP⟩ : ∃ P, P = ptY G b i (pq b q) m := ⟨_, rfl⟩
  rw [← hP] at s4
  have pF : ∀ x y, ¬ (x = 99 ∧ y = i) → x ≠ 100 → x ≠ 101 → x ≠ 102 → P.1 x y = F.1 x y := fun x y h1 h2 h3 h4 => by rw [hP, ptY_ne h1 h2 h3 h4, G1]
  have P2 : P.2 = G.2 := by rw [hP, ptY_2]
  have p91 : ∀ y, P.1 91 y = C.1 91 y := fun y => (pF 91 y (by omega) (by omega) (by omega) (by omega)).trans (f91 y)
  have yP : BYr P b := yF.same (fun y => pF 111 y (by omega) (by omega) (by omega) (by omega))
  obtain ⟨Q, eQ, q109, q0, q1, qF⟩ := y_kk (x4 := fo b q) hb yP hi (by omega) h5 ((p91 35).trans c35) ((p91 36).trans c36) (by rw [P2]; exact G39) (by rw [P2]; exact G40) (by rw [P2]; exact G41) (by omega)
  have qS : ∀ a, (a = 92 ∨ a = 93 ∨ (95 ≤ a ∧ a ≤ 98)) → Q.1 a i = E.1 a i := fun a ha => by rw [qF a i (by omega) (by omega), pF a i (by omega) (by omega) (by omega) (by omega), fF' a i (by omega)]
  have qU : ∀ x y, x ≠ 105 → ¬ (x = 94 ∧ 16 * i ≤ y ∧ y < 16 * i + 16) → x ≠ 100 → x ≠ 101 → x ≠ 102 → ¬ (scl x ∧ y = i) → Q.1 x y = C.1 x y := fun x y h1 h2 h3 h4 h5 h6 => by
    have h7 : ¬ ((x = 92 ∨ x = 93 ∨ (95 ≤ x ∧ x ≤ 99) ∨ x = 103 ∨ x = 104 ∨ (106 ≤ x ∧ x ≤ 109)) ∧ y = i) := h6
    rw [qF x y (by omega) (by omega), pF x y (by omega) h3 h4 h5, fF' x y h2, eF' x y (by omega)]
  have cArr : ∀ x y, (x = 94 ∨ x = 100 ∨ x = 101 ∨ x = 102 ∨ x = 105) → C.1 x y = M.1 x y := fun x y h => cM x y (by omega) (by unfold scl; omega)
  have f0 : ∀ x y, (x = 100 ∨ x = 101 ∨ x = 102 ∨ x = 105) → F.1 x y = M.1 x y := fun x y h => by rw [fF' x y (by omega), eF' x y (by omega)]; exact cArr x y (by omega)
  have hf2 : ¬ fo b q = 0 → dn b q = 0 := by
    intro gf
    have hf1 : (fo b q).toInt = 1 := by
      rcases fo_01 b q with z | z
      · exact absurd (show fo b q = 0 by rw [eqc, t3_0]; exact z) gf
      · exact z
    have := (h5.2.1 hf1).1
    unfold dn
    rw [this]
    rfl
  have pz : ∀ a, (a = 103 ∨ a = 104 ∨ (106 ≤ a ∧ a ≤ 108)) → P.1 a i = 0 := fun a ha => by rw [pF a i (by omega) (by omega) (by omega) (by omega), fF' a i (by omega), eF' a i (by omega)]; exact c0 a (by omega)
  refine ⟨Q, s1.trans (s2.trans (s3.trans (s4.trans eQ))), ⟨⟨?_, ?_, ?_, ?_, ?_, ?_, ?_, ?_, ?_, ?_, ?_, ?_, q109⟩, fun k hk => ?_, fun k hk => ?_, fun p hp3 => ?_, fun p hp3 => ?_, fun p j hp3 hj => ?_⟩, fun x y h1 h2 => ?_⟩
  · rw [qS 92 (by omega), hE]; simp (disch := omega) only [sI_ne]; rw [hD, sI_eq]
  · rw [qS 93 (by omega), hE]; simp (disch := omega) only [sI_ne, sI_eq]
  · rw [qS 95 (by omega), hE, sI_eq]
  · by_cases g : fo b q = 0
    · exact (q0 g).2.1
    · rw [q1 g _ _ (by omega), hf2 g]; exact pz 104 (by omega)
  · rw [qF _ _ (by omega) (by omega), hP]; exact ptY_99 (by rw [G1]; exact f99) m
  · unfold eD
    by_cases g : fo b q = 0
    · rw [if_pos g]; exact (q0 g).1
    · rw [if_neg g, q1 g _ _ (by omega)]; exact pz 103 (by omega)
  · unfold eD
    by_cases g : fo b q = 0
    · rw [if_pos g]; exact (q0 g).2.2.2.2.1
    · rw [if_neg g, q1 g _ _ (by omega)]; exact pz 108 (by omega)
  · intro hk
    by_cases g : fo b q = 0
    · exact (q0 g).2.2.1
    · unfold eK at hk
      rw [if_neg g] at hk
      exact absurd hk (by decide)
  · unfold eS
    by_cases g : fo b q = 0
    · rw [if_pos g]; exact (q0 g).2.2.2.1
    · rw [if_neg g, q1 g _ _ (by omega)]; exact pz 107 (by omega)
  · rw [qS 96 (by omega), hE]; simp (disch := omega) only [sI_ne, sI_eq]
  · rw [qS 97 (by omega), hE]; simp (disch := omega) only [sI_ne, sI_eq]
  · rw [qS 98 (by omega), hE]; simp (disch := omega) only [sI_ne, sI_eq]
  · rw [qF _ _ (by omega) (by omega), pF _ _ (by omega) (by omega) (by omega) (by omega), hF, cpt_if]
    by_cases z : k < rN b q
    · rw [if_pos z, if_pos z]
    · rw [if_neg z, if_neg z, eF' _ _ (by omega)]; exact cArr _ _ (by omega)
  · by_cases g : fo b q = 0
    · rw [(q0 g).2.2.2.2.2 k]
      by_cases z : k < dn b q
      · rw [if_pos z, if_pos z]
      · rw [if_neg z, if_neg z, pF _ _ (by omega) (by omega) (by omega) (by omega)]; exact f0 _ _ (by omega)
    · rw [q1 g _ _ (by omega), hf2 g, if_neg (by omega), pF _ _ (by omega) (by omega) (by omega) (by omega)]; exact f0 _ _ (by omega)
  · rw [qF _ _ (by omega) (by omega), hP, ptY_100, G1, f0 _ _ (by omega), show 3 * i + p - 3 * i = p by omega]
    by_cases z : p < m
    · rw [if_pos z, if_pos (by omega)]; rfl
    · rw [if_neg z, if_neg (by omega)]
  · rw [qF _ _ (by omega) (by omega), hP, ptY_101, G1, f0 _ _ (by omega), show 3 * i + p - 3 * i = p by omega]
    by_cases z : p < m
    · rw [if_pos z, if_pos (by omega)]; rfl
    · rw [if_neg z, if_neg (by omega)]
  · rw [qF _ _ (by omega) (by omega), hP, ptY_102 hj _ (fun l hl => (hp.2.2 l hl).2), G1, f0 _ _ (by omega)]
    rfl
  · have hm3 := hp.1
    have hlen : ∀ l, l < m → nm b (pp b (pq b q) l + 2) 2 ≤ 8 := fun l hl => (hp.2.2 l hl).2
    unfold own at h2
    have hs : ¬ (scl x ∧ y = i) := fun z => h2 (Or.inl z)
    by_cases g105 : x = 105
    · subst g105
      rw [qF _ _ (by omega) (by omega), pF _ _ (by omega) (by omega) (by omega) (by omega)]; exact f0 _ _ (by omega)
    by_cases g100 : x = 100
    · subst g100
      rw [qF _ _ (by omega) (by omega), hP, ptY_100, G1, f0 _ _ (by omega), if_neg (by omega)]
    by_cases g101 : x = 101
    · subst g101
      rw [qF _ _ (by omega) (by omega), hP, ptY_101, G1, f0 _ _ (by omega), if_neg (by omega)]
    by_cases g102 : x = 102
    · subst g102
      rw [qF _ _ (by omega) (by omega), hP, ptY_102o (by omega) m hm3 hlen, G1, f0 _ _ (by omega)]
    rw [qU x y g105 (by omega) g100 g101 g102 hs]
    exact cM x y h1 hs
