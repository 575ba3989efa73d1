/-! THE REFERENCE's look at one row -/
def LY (M : Me) (b : Nat → Nat) (q : Nat) : Prop := M.1 91 34 = nI (q + 46) ∧ M.1 91 35 = nI (rN b q) ∧ M.1 91 36 = nI (rE b q) ∧ M.2 91 39 = lN (nm b (q + 20) 4) ∧ M.2 91 40 = lN (nm b (q + 24) 4) ∧ M.2 91 41 = lN (lcl b q)
def KY (M M' : Me) : Prop := ∀ x y, ¬ (x = 91 ∧ 34 ≤ y ∧ y ≤ 38) → M'.1 x y = M.1 x y
theorem KY.refl {M : Me} : KY M M := fun _ _ _ => rfl
theorem KY.trans {M M' M'' : Me} (h : KY M M') (h' : KY M' M'') : KY M M'' := fun x y q => (h' x y q).trans (h x y q)
theorem KY.up {M M' : Me} {y : Nat} {v : Int32} (h : KY M M') (hy : 34 ≤ y ∧ y ≤ 38) : KY M (sI M' 91 y v) := fun x y q => by rw [sI_ne (by omega)]; exact h x y q
theorem KY.by {M M' : Me} {b : Nat → Nat} (h : KY M M') (hy : BYr M b) : BYr M' b := hy.same (fun y => h 111 y (by omega))
theorem KY.sy {M M' : Me} (h : KY M M') : SY M M' := fun x y h1 h2 => h x y (by omega)
theorem f_lay {M : Me} {b : Nat → Nat} {q : Nat} (hb : Bb b) (hy : BYr M b) (hq : q + 46 ≤ 2000) : ∃ M', f_X5_layRow M 91 (nI q) = some ((), M') ∧ LY M' b q ∧ KY M M' := by
  have ern : nm b (q + 28) 2 = rN b q := rfl
  have ere : nm b (q + 30) 2 = rE b q := rfl
  have elc : nm b (q + 42) 4 = lcl b q := rfl
  unfold f_X5_layRow
  rw [show (28 : Int32) = nI 28 from rfl, nI_add, f_two hb hy (by omega), cal_s, bnd_s, ern]
  obtain ⟨A, hA⟩ : ∃ A, A = sI M 91 35 (nI (rN b q)) := ⟨_, rfl⟩
  have kA : KY M A := by rw [hA]; exact KY.refl.up (by omega)
  rw [← hA, show (30 : Int32) = nI 30 from rfl, nI_add, f_two hb (kA.by hy) (by omega), cal_s, bnd_s, bnd_s, ere, show (46 : Int32) = nI 46 from rfl, nI_add]
  obtain ⟨B, hB⟩ : ∃ B, B = sI (sI A 91 36 (nI (rE b q))) 91 34 (nI (q + 46)) := ⟨_, rfl⟩
  have kB : KY M B := by rw [hB]; exact (kA.up (by omega)).up (by omega)
  have b34 : B.1 91 34 = nI (q + 46) := by rw [hB, sI_eq]
  have b35 : B.1 91 35 = nI (rN b q) := by rw [hB, sI_ne (by omega), sI_ne (by omega), hA, sI_eq]
  have b36 : B.1 91 36 = nI (rE b q) := by rw [hB, sI_ne (by omega), sI_eq]
  rw [← hB, show (20 : Int32) = nI 20 from rfl, nI_add, f_four hb (kB.by hy) (by omega), cal_s, bnd_s]
  obtain ⟨C, hC⟩ : ∃ C, C = sL B 91 39 (lN (nm b (q + 20) 4)) := ⟨_, rfl⟩
  have kC : KY M C := by rw [hC]; exact kB
  rw [← hC, show (24 : Int32) = nI 24 from rfl, nI_add, f_four hb (kC.by hy) (by omega), cal_s, bnd_s]
  obtain ⟨D, hD⟩ : ∃ D, D = sL C 91 40 (lN (nm b (q + 24) 4)) := ⟨_, rfl⟩
  have kD : KY M D := by rw [hD]; exact kC
  rw [← hD, show (42 : Int32) = nI 42 from rfl, nI_add, f_four hb (kD.by hy) (by omega), cal_s, bnd_s, elc]
  refine ⟨_, rfl, ⟨?_, ?_, ?_, ?_, ?_, sL_eq⟩, kD⟩
  · rw [sL_1, hD, sL_1, hC, sL_1]; exact b34
  · rw [sL_1, hD, sL_1, hC, sL_1]; exact b35
  · rw [sL_1, hD, sL_1, hC, sL_1]; exact b36
  · rw [sL_ne (by omega), hD, sL_ne (by omega), hC, sL_eq]
  · rw [sL_ne (by omega), hD, sL_eq]
def stY (b : Nat → Nat) (u t j : Nat) : Prop := pp b u j + 4 + nm b (pp b u j + 2) 2 ≤ t ∧ gpt b (pp b u j) ∧ j < 3
theorem hP_loop {N : Me} {b : Nat → Nat} {s u t : Nat} (hb : Bb b) (hy : BYr N b) (h38 : N.1 91 38 = 0) (hsu : s ≤ u) (hut : u ≤ t) (ht : t ≤ 2000) (hw : s < u ∨ (u = s ∧ ¬ (s + 20 ≤ t ∧ nm b s 2 = 1 ∧ nm b (s + 2) 2 = 16))) : ∃ v, ∀ fuel, 4 < fuel → ((∃ m, prt b u t m) → lp (fun kb (z : Int32 × Me) => g_X5_hasParts_12 (fun v10 M11 => chZ (1 : Int32) (some ((1 : Int32), M11))) kb 91 (nI s) (nI t) z.1 z.2) fuel (nI u, N) = some (1, sI N 91 38 v)) ∧ ((¬ ∃ m, prt b u t m) → lp (fun kb (z : Int32 × Me) => g_X5_hasParts_12 (fun v10 M11 => chZ (1 : Int32) (some ((1 : Int32), M11))) kb 91 (nI s) (nI t) z.1 z.2) fuel (nI u, N) = some (0, sI N 91 38 v)) := by
  have yj : ∀ v, BYr (sI N 91 38 v) b := fun v => hy.up (by omega)
  have pre : ∀ kx kb j, j ≤ 3 → pp b u j < t → pp b u j + 4 ≤ t → g_X5_hasParts_12 kx kb 91 (nI s) (nI t) (nI (pp b u j)) (sI N 91 38 (nI j)) = if nI t < nI (pp b u j + 4 + nm b (pp b u j + 2) 2) then some (0, sI N 91 38 (nI j)) else if nI (nm b (pp b u j) 2) = (0 : Int32) then some (0, sI N 91 38 (nI j)) else if nI (nm b (pp b u j) 2) = (1 : Int32) then (if nI s < nI (pp b u j) then some (0, sI N 91 38 (nI j)) else if nI (nm b (pp b u j + 2) 2) = (16 : Int32) then kb (nI (pp b u j + (4 + nm b (pp b u j + 2) 2)), sI (sI N 91 38 (nI j)) 91 37 1) else some (0, sI N 91 38 (nI j))) else if (8 : Int32) < nI (nm b (pp b u j + 2) 2) then some (0, sI N 91 38 (nI (j + 1))) else if nI (j + 1) ≤ (3 : Int32) then kb (nI (pp b u j + (4 + nm b (pp b u j + 2) 2)), sI N 91 38 (nI (j + 1))) else some (0, sI N 91 38 (nI (j + 1))) := by
    intro kx kb j hj hlt h4
    unfold g_X5_hasParts_12 j_X5_hasParts_114
    rw [if_neg (nI_ge hlt (by omega)), show (4 : Int32) = nI 4 from rfl, nI_add, if_pos (nI_le h4 (by omega)), f_two hb (yj _) (by omega), cal_s, show (2 : Int32) = nI 2 from rfl, nI_add, f_two hb (yj _) (by omega), cal_s, nI_add, nI_add, nI_add]
    simp only [chZ_0, chZ_1, bnd_s, bndV_s, sI_eq, nI_1, sI_sI]
  have good : ∀ kx kb j, j ≤ 3 → stY b u t j → g_X5_hasParts_12 kx kb 91 (nI s) (nI t) (nI (pp b u j)) (sI N 91 38 (nI j)) = kb (nI (pp b u (j + 1)), sI N 91 38 (nI (j + 1))) := by
    intro kx kb j hj hst
    obtain ⟨h1, ⟨h2, h3⟩, h4⟩ := hst
    have hn := n2_lt hb (pp b u j)
    rw [pre kx kb j hj (by omega) (by omega), if_neg (nI_nlt h1 (by omega)), if_neg (show ¬ nI (nm b (pp b u j) 2) = (0 : Int32) from fun z => by have := (nI_eq (b := 0) (by omega) (by decide)).mp z; omega), if_neg (show ¬ nI (nm b (pp b u j) 2) = (1 : Int32) from fun z => by have := (nI_eq (b := 1) (by omega) (by decide)).mp z; omega), if_neg (show ¬ (8 : Int32) < nI (nm b (pp b u j + 2) 2) from nI_nlt (a := 8) h3 (by decide)), if_pos (show nI (j + 1) ≤ (3 : Int32) from nI_le (b := 3) (by omega) (by decide))]
    rfl
  have bad : ∀ j, j ≤ 3 → pp b u j < t → ¬ stY b u t j → ∃ v, ∀ kx kb, g_X5_hasParts_12 kx kb 91 (nI s) (nI t) (nI (pp b u j)) (sI N 91 38 (nI j)) = some (0, sI N 91 38 v) := by
    intro j hj hlt hst
    have hn := n2_lt hb (pp b u j)
    have hl := n2_lt hb (pp b u j + 2)
    have hpu := pp_le (b := b) (s := u) (show 0 ≤ j by omega)
    have hp0 : pp b u 0 = u := rfl
    rcases Nat.lt_or_ge t (pp b u j + 4) with g1 | g1
    · refine ⟨nI j, fun kx kb => ?_⟩
      unfold g_X5_hasParts_12
      rw [if_neg (nI_ge hlt (by omega)), show (4 : Int32) = nI 4 from rfl, nI_add, if_neg (nI_ge g1 (by omega)), chZ_0]
    by_cases g2 : t < pp b u j + 4 + nm b (pp b u j + 2) 2
    · exact ⟨nI j, fun kx kb => by rw [pre kx kb j hj hlt g1, if_pos (nI_lt g2 (by omega))]⟩
    by_cases g3 : nm b (pp b u j) 2 = 0
    · exact ⟨nI j, fun kx kb => by rw [pre kx kb j hj hlt g1, if_neg (nI_nlt (by omega) (by omega)), if_pos (show nI (nm b (pp b u j) 2) = (0 : Int32) by rw [g3]; rfl)]⟩
    have g3' : ¬ nI (nm b (pp b u j) 2) = (0 : Int32) := fun z => g3 ((nI_eq (b := 0) (by omega) (by decide)).mp z)
    by_cases g4 : nm b (pp b u j) 2 = 1
    · by_cases g5 : s < pp b u j
      · exact ⟨nI j, fun kx kb => by rw [pre kx kb j hj hlt g1, if_neg (nI_nlt (by omega) (by omega)), if_neg g3', if_pos (show nI (nm b (pp b u j) 2) = (1 : Int32) by rw [g4]; rfl), if_pos (nI_lt g5 (by omega))]⟩
      · have g6 : ¬ nm b (pp b u j + 2) 2 = 16 := by
          intro h16
          rcases hw with hw | ⟨hw1, hw2⟩
          · omega
          · have e1 : pp b u j = s := by omega
            rw [e1] at g4 h16 g2
            exact hw2 ⟨by omega, g4, h16⟩
        exact ⟨nI j, fun kx kb => by rw [pre kx kb j hj hlt g1, if_neg (nI_nlt (by omega) (by omega)), if_neg g3', if_pos (show nI (nm b (pp b u j) 2) = (1 : Int32) by rw [g4]; rfl), if_neg (nI_nlt (by omega) (by omega)), if_neg (show ¬ nI (nm b (pp b u j + 2) 2) = (16 : Int32) from fun z => g6 ((nI_eq (b := 16) (by omega) (by decide)).mp z))]⟩
    have g4' : ¬ nI (nm b (pp b u j) 2) = (1 : Int32) := fun z => g4 ((nI_eq (b := 1) (by omega) (by decide)).mp z)
    by_cases g7 : nm b (pp b u j + 2) 2 ≤ 8
    · have g8 : ¬ j < 3 := fun z => hst ⟨by omega, ⟨by omega, g7⟩, z⟩
      exact ⟨nI (j + 1), fun kx kb => by rw [pre kx kb j hj hlt g1, if_neg (nI_nlt (by omega) (by omega)), if_neg g3', if_neg g4', if_neg (show ¬ (8 : Int32) < nI (nm b (pp b u j + 2) 2) from nI_nlt (a := 8) g7 (by decide)), if_neg (show ¬ nI (j + 1) ≤ (3 : Int32) from nI_ge (a := 3) (by omega) (by omega))]⟩
    · exact ⟨nI (j + 1), fun kx kb => by rw [pre kx kb j hj hlt g1, if_neg (nI_nlt (by omega) (by omega)), if_neg g3', if_neg g4', if_pos (show (8 : Int32) < nI (nm b (pp b u j + 2) 2) from nI_lt (a := 8) (by omega) (by omega))]⟩
  obtain ⟨m, hm, hmin⟩ := pk_least (fun j => t ≤ pp b u j ∨ ¬ stY b u t j) ⟨3, Or.inr (fun z => by have := z.2.2; omega)⟩
  have hm3 : m ≤ 3 := by
    rcases Nat.lt_or_ge 3 m with q | q
    · exact absurd (Or.inr (fun z => by have := z.2.2; omega)) (hmin 3 q)
    · exact q
  have hgo : ∀ j, j < m → pp b u j < t ∧ stY b u t j := by
    intro j hj
    have := hmin j hj
    refine ⟨?_, Classical.byContradiction (fun z => this (Or.inr z))⟩
    rcases Nat.lt_or_ge (pp b u j) t with q | q
    · exact q
    · exact absurd (Or.inl q) this
  have e0 : ((nI u, N) : Int32 × Me) = (fun j => (nI (pp b u j), sI N 91 38 (nI j))) 0 := by
    show _ = (nI u, sI N 91 38 (nI 0))
    rw [show nI 0 = (0 : Int32) from rfl, sI_self h38]
  have hrun : ∀ K, (∀ kb, g_X5_hasParts_12 (fun v10 M11 => chZ (1 : Int32) (some ((1 : Int32), M11))) kb 91 (nI s) (nI t) (nI (pp b u m)) (sI N 91 38 (nI m)) = K) → ∀ fuel, 4 < fuel → lp (fun kb (z : Int32 × Me) => g_X5_hasParts_12 (fun v10 M11 => chZ (1 : Int32) (some ((1 : Int32), M11))) kb 91 (nI s) (nI t) z.1 z.2) fuel (nI u, N) = K := by
    intro K hK fuel hf
    rw [e0]
    exact lp_run _ (fun j => (nI (pp b u j), sI N 91 38 (nI j))) m _ (fun kb j hj => good _ kb j (by omega) (hgo j hj).2) (fun kb => hK kb) fuel 0 (by omega) (by omega)
  rcases Nat.lt_or_ge (pp b u m) t with q | q
  · have hns : ¬ stY b u t m := by
      rcases hm with hm | hm
      · omega
      · exact hm
    obtain ⟨v, hv⟩ := bad m hm3 q hns
    have hno : ¬ ∃ m', prt b u t m' := by
      rintro ⟨m', p1, p2, p3⟩
      rcases Nat.lt_trichotomy m m' with w | w | w
      · have h1 := pp_4 (b := b) (s := u) w
        exact hns ⟨by omega, p3 m w, by omega⟩
      · subst w
        omega
      · have := (hgo m' w).1
        omega
    exact ⟨v, fun fuel hf => ⟨fun z => absurd z hno, fun _ => hrun _ (fun kb => hv _ kb) fuel hf⟩⟩
  · have hle : pp b u m ≤ t := by
      rcases Nat.lt_or_ge 0 m with w | w
      · have h1 := (hgo (m - 1) (by omega)).2.1
        have h2 : pp b u (m - 1 + 1) = pp b u (m - 1) + (4 + nm b (pp b u (m - 1) + 2) 2) := rfl
        rw [show m - 1 + 1 = m by omega] at h2
        omega
      · have e : m = 0 := by omega
        subst e
        exact hut
    have hp : prt b u t m := ⟨hm3, by omega, fun j hj => (hgo j hj).2.2.1⟩
    refine ⟨nI m, fun fuel hf => ⟨fun _ => hrun _ (fun kb => ?_) fuel hf, fun z => absurd ⟨m, hp⟩ z⟩⟩
    unfold g_X5_hasParts_12
    rw [if_pos (nI_le q (by omega))]
    exact chZ_1 _
theorem f_hP {M : Me} {b : Nat → Nat} {q : Nat} (hb : Bb b) (hy : BYr M b) (hnx : nxt b q ≤ 2000) : ∃ M', KY M M' ∧ (∀ y, y ≤ 36 → M'.1 91 y = M.1 91 y) ∧ M'.2 = M.2 ∧ ((∃ m, prt b (pq b q) (nxt b q) m) → f_X5_hasParts M 91 (nI (rS b q)) (nI (nxt b q)) = some (1, M') ∧ M'.1 91 37 = wq b q) ∧ ((¬ ∃ m, prt b (pq b q) (nxt b q) m) → f_X5_hasParts M 91 (nI (rS b q)) (nI (nxt b q)) = some (0, M')) := by
  have hnx2 : nxt b q = q + 46 + rN b q + rE b q := rfl
  have hrS : rS b q = q + 46 + rN b q := rfl
  obtain ⟨A, hA⟩ : ∃ A, A = sI (sI M 91 38 0) 91 37 0 := ⟨_, rfl⟩
  have kA : KY M A := by rw [hA]; exact (KY.refl.up (by omega)).up (by omega)
  have a38 : A.1 91 38 = 0 := by rw [hA, sI_ne (by omega), sI_eq]
  have a37 : A.1 91 37 = 0 := by rw [hA, sI_eq]
  have lA : ∀ y, y ≤ 36 → A.1 91 y = M.1 91 y := fun y h => by rw [hA, sI_ne (by omega), sI_ne (by omega)]
  have A2 : A.2 = M.2 := by rw [hA]; rfl
  have hu : f_X5_hasParts M 91 (nI (rS b q)) (nI (nxt b q)) = lp (fun kb (z : Int32 × Me) => g_X5_hasParts_12 (fun v10 M11 => chZ (1 : Int32) (some ((1 : Int32), M11))) kb 91 (nI (rS b q)) (nI (nxt b q)) z.1 z.2) FU (nI (rS b q), A) := by
    unfold f_X5_hasParts l_X5_hasParts_12
    rw [bnd_s, chZ_0, bnd_s, ← hA]
  rw [hu]
  by_cases hw : 20 ≤ rE b q ∧ nm b (rS b q) 2 = 1 ∧ nm b (rS b q + 2) 2 = 16
  · have e1 : wq b q = 1 := if_pos hw
    have e2 : pq b q = rS b q + 20 := if_pos hw
    rw [e1, e2]
    obtain ⟨B, hB⟩ : ∃ B, B = sI A 91 37 1 := ⟨_, rfl⟩
    have kB : KY M B := by rw [hB]; exact kA.up (by omega)
    have b38 : B.1 91 38 = 0 := by rw [hB, sI_ne (by omega)]; exact a38
    have b37 : B.1 91 37 = 1 := by rw [hB, sI_eq]
    obtain ⟨v, hv⟩ := hP_loop (s := rS b q) (u := rS b q + 20) (t := nxt b q) hb (kB.by hy) b38 (by omega) (by omega) hnx (Or.inl (by omega))
    obtain ⟨f', hf1, hf2⟩ : ∃ f', FU = f' + 1 ∧ 4 < f' := ⟨FU - 1, by unfold FU; omega, by unfold FU; omega⟩
    have st : lp (fun kb (z : Int32 × Me) => g_X5_hasParts_12 (fun v10 M11 => chZ (1 : Int32) (some ((1 : Int32), M11))) kb 91 (nI (rS b q)) (nI (nxt b q)) z.1 z.2) FU (nI (rS b q), A) = lp (fun kb (z : Int32 × Me) => g_X5_hasParts_12 (fun v10 M11 => chZ (1 : Int32) (some ((1 : Int32), M11))) kb 91 (nI (rS b q)) (nI (nxt b q)) z.1 z.2) f' (nI (rS b q + 20), B) := by
      rw [hf1]
      show g_X5_hasParts_12 _ _ 91 (nI (rS b q)) (nI (nxt b q)) (nI (rS b q)) A = _
      unfold g_X5_hasParts_12 j_X5_hasParts_114
      rw [if_neg (nI_ge (show rS b q < nxt b q by omega) (by omega)), show (4 : Int32) = nI 4 from rfl, nI_add, if_pos (nI_le (by omega) (by omega)), f_two hb (kA.by hy) (by omega), cal_s, show (2 : Int32) = nI 2 from rfl, nI_add, f_two hb (kA.by hy) (by omega), cal_s, hw.2.1, hw.2.2, nI_add, nI_add, nI_add, if_neg (nI_nlt (by omega) (by omega)), if_neg (show ¬ nI 1 = (0 : Int32) by decide), if_pos (show nI 1 = (1 : Int32) from rfl), if_neg (nI_nlt (Nat.le_refl _) (by omega)), if_pos (show nI 16 = (16 : Int32) from rfl), chZ_1, bnd_s, bndV_s, ← hB]
    rw [st]
    refine ⟨sI B 91 38 v, kB.up (by omega), fun y h => ?_, ?_, fun h => ⟨(hv f' hf2).1 h, ?_⟩, fun h => (hv f' hf2).2 h⟩
    · rw [sI_ne (by omega), hB, sI_ne (by omega)]; exact lA y h
    · rw [hB]; exact A2
    · rw [sI_ne (by omega)]; exact b37
  · have e1 : wq b q = 0 := if_neg hw
    have e2 : pq b q = rS b q := if_neg hw
    rw [e1, e2]
    obtain ⟨v, hv⟩ := hP_loop (s := rS b q) (u := rS b q) (t := nxt b q) hb (kA.by hy) a38 (by omega) (by omega) hnx (Or.inr ⟨rfl, fun z => hw ⟨by omega, z.2.1, z.2.2⟩⟩)
    have hF : 4 < FU := by unfold FU; omega
    refine ⟨sI A 91 38 v, kA.up (by omega), fun y h => ?_, A2, fun h => ⟨(hv FU hF).1 h, ?_⟩, fun h => (hv FU hF).2 h⟩
    · rw [sI_ne (by omega)]; exact lA y h
    · rw [sI_ne (by omega)]; exact a37
