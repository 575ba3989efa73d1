theorem c_8 {M : Me} {b : Nat → Nat} {q cf : Nat} {x1 : Int32} (hb : Bb b) (hy : BYr M b) (hc : cf ≤ 2000) (hnx : nxt b q ≤ 2000) (h6 : C6 b cf q) (hdn : dn b q ≤ 40) (hn : rN b q + rE b q ≤ 100) : (C8 b cf q → (if nI cf < nI (lend b q) then j_X5_checkLocal_317 91 x1 (nI q) (nI (flg b q)) (nI (lcl b q)) (nI (dp b q)) (nI (lend b q)) 0 M else j_X5_checkLocal_317 91 x1 (nI q) (nI (flg b q)) (nI (lcl b q)) (nI (dp b q)) (nI (lend b q)) 1 M) = j_X5_checkLocal_371 91 x1 (nI q) 1 (nI (lcl b q)) (nI (dp b q)) (nI (lend b q)) M) ∧ (¬ C8 b cf q → (if nI cf < nI (lend b q) then j_X5_checkLocal_317 91 x1 (nI q) (nI (flg b q)) (nI (lcl b q)) (nI (dp b q)) (nI (lend b q)) 0 M else j_X5_checkLocal_317 91 x1 (nI q) (nI (flg b q)) (nI (lcl b q)) (nI (dp b q)) (nI (lend b q)) 1 M) = j_X5_checkLocal_371 91 x1 (nI q) 0 (nI (lcl b q)) (nI (dp b q)) (nI (lend b q)) M) := by
  have h6a := h6.1
  have hnx2 : nxt b q = q + 46 + rN b q + rE b q := rfl
  have hdp : dp b q = lcl b q + 30 + rN b q + rE b q := rfl
  have hle : lend b q = dp b q + dn b q + (if flg b q = 8 then 16 else 0) := rfl
  have hfl := n2_lt hb (q + 8)
  have ef : nm b (q + 8) 2 = flg b q := rfl
  rw [ef] at hfl
  have e8 : (nI (flg b q) = (8 : Int32)) ↔ flg b q = 8 := nI_eq (b := 8) (by omega) (by decide)
  have hl16 : lend b q ≤ dp b q + dn b q + 16 := by
    rw [hle]
    by_cases q8 : flg b q = 8
    · rw [if_pos q8]; omega
    · rw [if_neg q8]; omega
  unfold j_X5_checkLocal_317 j_X5_checkLocal_368 j_X5_checkLocal_369
  rw [if_pos (show (0 : Int32) = 0 from rfl), if_neg ne10]
  rcases Nat.lt_or_ge cf (lend b q) with g1 | g1
  · rw [if_pos (nI_lt g1 (by omega))]
    exact ⟨fun z => by have := z.1; omega, fun _ => rfl⟩
  rw [if_neg (nI_nlt g1 (by omega))]
  by_cases q8 : flg b q = 8
  · have hle2 : lend b q = dp b q + dn b q + 16 := by rw [hle, if_pos q8]
    have hn4 := n4_lt hb (dp b q + dn b q)
    have e1 : (lg_cmp (lN (nm b (dp b q + dn b q) 4)) (134695760 : Int64) = 0) = (nm b (dp b q + dn b q) 4 = 134695760) := lN_lgE (c := 134695760) (by omega) (by decide)
    have s16 : nI (lend b q) - (16 : Int32) = nI (dp b q + dn b q) := by
      rw [show (16 : Int32) = nI 16 from rfl, pk_sub (by omega)]
      rw [show lend b q - 16 = dp b q + dn b q by omega]
    have s12 : nI (lend b q) - (12 : Int32) = nI (dp b q + dn b q + 4) := by
      rw [show (12 : Int32) = nI 12 from rfl, pk_sub (by omega)]
      rw [show lend b q - 12 = dp b q + dn b q + 4 by omega]
    rw [if_pos (e8.mpr q8), s16, f_four hb hy (by omega), cal_s, s12, show (16 : Int32) = nI 16 from rfl, show (12 : Int32) = nI 12 from rfl, nI_add]
    by_cases g2 : nm b (dp b q + dn b q) 4 = 134695760
    · rw [if_pos (by rw [e1]; exact g2)]
      by_cases g3 : ∀ k, k < 12 → b (dp b q + dn b q + 4 + k) = b (q + 16 + k)
      · rw [f_alike1 hb hy (by omega) (by omega) g3, cal_s, if_neg ne10]
        exact ⟨fun _ => rfl, fun z => absurd ⟨g1, fun _ => ⟨g2, g3⟩⟩ z⟩
      · rw [f_alike0 hb hy (by omega) (by omega) g3, cal_s, if_pos (show (0 : Int32) = 0 from rfl)]
        exact ⟨fun z => absurd (z.2 q8).2 g3, fun _ => rfl⟩
    · rw [if_neg (by rw [e1]; exact g2)]
      exact ⟨fun z => absurd (z.2 q8).1 g2, fun _ => rfl⟩
  · rw [if_neg (fun z => q8 (e8.mp z))]
    exact ⟨fun _ => rfl, fun z => absurd ⟨g1, fun y => absurd y q8⟩ z⟩
/-- the entries before: a fault that stands is left -/
theorem c_386 {N : Me} {i : Nat} {x2 x5 x8 : Int32} (kx : Int32 → Me → Option (Unit × Me)) (hi : i < 12) (h : ¬ N.1 91 27 = 0) : ∀ fuel j, j ≤ i → i - j < fuel → lp (fun kb (z : Int32 × Me) => g_X5_checkLocal_386 kx kb 91 (nI i) x2 x5 x8 z.1 z.2) fuel (nI j, N) = kx (nI i) N := by
  refine lp_run _ (fun j => (nI j, N)) i _ (fun kb j hj => ?_) (fun kb => ?_)
  · show g_X5_checkLocal_386 kx kb 91 (nI i) x2 x5 x8 (nI j) N = _
    unfold g_X5_checkLocal_386 j_X5_checkLocal_417 j_X5_checkLocal_422
    rw [if_neg (nI_ge hj (by omega)), rf_91_42, rf_91_43, chk_n _ (show j < ln 113 by rw [ln_113]; omega) (by decide), chk_n _ (show j < ln 114 by rw [ln_114]; omega) (by decide), w_s h, w_s h, cal_s, bndV_s, nI_1]
    repeat' split
    all_goals rfl
  · show g_X5_checkLocal_386 kx kb 91 (nI i) x2 x5 x8 (nI i) N = _
    unfold g_X5_checkLocal_386
    rw [if_pos (nI_le (Nat.le_refl i) (by omega))]
def sh (b : Nat → Nat) (cf i j : Nat) : Prop := lcl b (rs b cf i) < lend b (rs b cf j) ∧ lcl b (rs b cf j) < lend b (rs b cf i)
theorem c_9 {M : Me} {b : Nat → Nat} {cf i : Nat} {x2 : Int32} (kx : Int32 → Me → Option (Unit × Me)) (hi : i < 12) (h27 : M.1 91 27 = 0) (hl : ∀ j, j ≤ i → lcl b (rs b cf j) < 2 ^ 31) (he : ∀ j, j ≤ i → lend b (rs b cf j) < 2 ^ 31) (h113 : ∀ j, j < i → M.1 113 j = nI (lcl b (rs b cf j))) (h114 : ∀ j, j < i → M.1 114 j = nI (lend b (rs b cf j))) : (C9 b cf i → l_X5_checkLocal_386 kx 91 (nI i) x2 (nI (lcl b (rs b cf i))) (nI (lend b (rs b cf i))) 0 M = kx (nI i) M) ∧ (¬ C9 b cf i → l_X5_checkLocal_386 kx 91 (nI i) x2 (nI (lcl b (rs b cf i))) (nI (lend b (rs b cf i))) 0 M = kx (nI i) (sI (sI M 91 27 9) 91 28 (nI (lcl b (rs b cf i))))) := by
  have step : ∀ j, j < i → (¬ sh b cf i j → ∀ kb, g_X5_checkLocal_386 kx kb 91 (nI i) x2 (nI (lcl b (rs b cf i))) (nI (lend b (rs b cf i))) (nI j) M = kb (nI (j + 1), M)) ∧ (sh b cf i j → ∀ kb, g_X5_checkLocal_386 kx kb 91 (nI i) x2 (nI (lcl b (rs b cf i))) (nI (lend b (rs b cf i))) (nI j) M = kb (nI (j + 1), sI (sI M 91 27 9) 91 28 (nI (lcl b (rs b cf i))))) := by
    intro j hj
    have a1 := hl i (by omega)
    have a2 := hl j (by omega)
    have a3 := he i (by omega)
    have a4 := he j (by omega)
    have pre : ∀ kb, g_X5_checkLocal_386 kx kb 91 (nI i) x2 (nI (lcl b (rs b cf i))) (nI (lend b (rs b cf i))) (nI j) M = if nI (lend b (rs b cf i)) ≤ nI (lcl b (rs b cf j)) then kb (nI (j + 1), M) else if nI (lcl b (rs b cf i)) < nI (lend b (rs b cf j)) then kb (nI (j + 1), sI (sI M 91 27 9) 91 28 (nI (lcl b (rs b cf i)))) else kb (nI (j + 1), M) := by
      intro kb
      unfold g_X5_checkLocal_386 j_X5_checkLocal_417 j_X5_checkLocal_422
      rw [if_neg (nI_ge hj (by omega)), rf_91_42, rf_91_43, chk_n _ (show j < ln 113 by rw [ln_113]; omega) (by decide), chk_n _ (show j < ln 114 by rw [ln_114]; omega) (by decide), w_t h27, w_f h27 (by decide), cal_s, cal_s, bndV_s, bndV_s, nI_1, nI_clamp (by omega), h113 j hj, h114 j hj, nI_li (by omega)]
    refine ⟨fun h kb => ?_, fun h kb => ?_⟩
    · rw [pre]
      rcases Nat.lt_or_ge (lcl b (rs b cf j)) (lend b (rs b cf i)) with g | g
      · rw [if_neg (nI_ge g (by omega)), if_neg (nI_nlt (by
          rcases Nat.lt_or_ge (lcl b (rs b cf i)) (lend b (rs b cf j)) with w | w
          · exact absurd ⟨w, g⟩ h
          · exact w) (by omega))]
      · rw [if_pos (nI_le g (by omega))]
    · rw [pre, if_neg (nI_ge h.2 (by omega)), if_pos (nI_lt h.1 (by omega))]
  unfold l_X5_checkLocal_386
  refine ⟨fun h => ?_, fun h => ?_⟩
  · refine lp_run _ (fun j => (nI j, M)) i _ (fun kb j hj => (step j hj).1 (h j hj) kb) (fun kb => ?_) FU 0 (by omega) (by unfold FU; omega)
    show g_X5_checkLocal_386 kx kb 91 (nI i) x2 _ _ (nI i) M = _
    unfold g_X5_checkLocal_386
    rw [if_pos (nI_le (Nat.le_refl i) (by omega))]
  · have hex : ∃ j, j < i ∧ sh b cf i j := by
      apply Classical.byContradiction
      intro hno
      exact h (fun j hj hp => hno ⟨j, hj, hp⟩)
    obtain ⟨m, ⟨hm1, hm2⟩, hm3⟩ := pk_least _ hex
    have key : ∀ fuel j, j ≤ m → i - j < fuel → lp (fun kb (z : Int32 × Me) => g_X5_checkLocal_386 kx kb 91 (nI i) x2 (nI (lcl b (rs b cf i))) (nI (lend b (rs b cf i))) z.1 z.2) fuel (nI j, M) = kx (nI i) (sI (sI M 91 27 9) 91 28 (nI (lcl b (rs b cf i)))) := by
      intro fuel
      induction fuel with
      | zero => intro j _ h; omega
      | succ f ih =>
        intro j hj hf
        show g_X5_checkLocal_386 kx _ 91 (nI i) x2 _ _ (nI j) M = _
        by_cases q : j = m
        · subst q
          rw [(step j hm1).2 hm2]
          exact c_386 kx hi (by rw [sI_ne (by omega), sI_eq]; decide) f (j + 1) (by omega) (by omega)
        · rw [(step j (by omega)).1 (fun z => hm3 j (by omega) ⟨by omega, z⟩)]
          exact ih (j + 1) (by omega) (by omega)
    exact key FU 0 (by omega) (by unfold FU; omega)
/-- the end of the look: what was taken, and the path -/
theorem c_10 {N : Me} {b : Nat → Nat} {q cf i l e : Nat} (hb : Bb b) (hy : BYr N b) (hz : LZ N b q cf) (hi : i < 12) (hq : q + 46 ≤ 2000) (hn : 1 ≤ rN b q) (hn2 : rN b q ≤ 16) : ∃ T, T = sI (sI N 113 i (nI l)) 114 i (nI e) ∧ ((N.1 91 27 = 0 → safe b (q + 46) (rN b q) → chk (nI i) (ln (rf 91 42)) (bnd (sI N (rf 91 42) (nI i).toNatClampNeg (nI l)) (fun M24 => chk (nI i) (ln (rf 91 43)) (bnd (sI M24 (rf 91 43) (nI i).toNatClampNeg (nI e)) (fun M25 => cal (f_X5_isSafe M25 91) (fun r26 M27 => cal (f_X5_want M27 91 r26 (10 : Int32) (nI q).toInt64) (fun r28 M29 => some ((), M29))))))) = some ((), T)) ∧ (N.1 91 27 = 0 → ¬ safe b (q + 46) (rN b q) → chk (nI i) (ln (rf 91 42)) (bnd (sI N (rf 91 42) (nI i).toNatClampNeg (nI l)) (fun M24 => chk (nI i) (ln (rf 91 43)) (bnd (sI M24 (rf 91 43) (nI i).toNatClampNeg (nI e)) (fun M25 => cal (f_X5_isSafe M25 91) (fun r26 M27 => cal (f_X5_want M27 91 r26 (10 : Int32) (nI q).toInt64) (fun r28 M29 => some ((), M29))))))) = some ((), sI (sI T 91 27 10) 91 28 (nI q))) ∧ (¬ N.1 91 27 = 0 → chk (nI i) (ln (rf 91 42)) (bnd (sI N (rf 91 42) (nI i).toNatClampNeg (nI l)) (fun M24 => chk (nI i) (ln (rf 91 43)) (bnd (sI M24 (rf 91 43) (nI i).toNatClampNeg (nI e)) (fun M25 => cal (f_X5_isSafe M25 91) (fun r26 M27 => cal (f_X5_want M27 91 r26 (10 : Int32) (nI q).toInt64) (fun r28 M29 => some ((), M29))))))) = some ((), T))) := by
  refine ⟨_, rfl, ?_⟩
  rw [rf_91_42, rf_91_43, chk_n _ (show i < ln 113 by rw [ln_113]; omega) (by decide), bnd_s, chk_n _ (show i < ln 114 by rw [ln_114]; omega) (by decide), bnd_s, nI_clamp (by omega)]
  obtain ⟨T, hT⟩ : ∃ T, T = sI (sI N 113 i (nI l)) 114 i (nI e) := ⟨_, rfl⟩
  rw [← hT]
  have yT : BYr T b := by rw [hT]; exact (hy.up (by omega)).up (by omega)
  have t27 : T.1 91 27 = N.1 91 27 := by rw [hT, sI_ne (by omega), sI_ne (by omega)]
  have zT : LZ T b q cf := by rw [hT]; exact (hz.up (by omega)).up (by omega)
  obtain ⟨s1, s0⟩ := f_sfY hb yT zT.1 zT.2.1 (by omega) hn hn2
  refine ⟨fun h1 h2 => ?_, fun h1 h2 => ?_, fun h1 => ?_⟩
  · rw [s1 h2, cal_s, w_t (t27.trans h1), cal_s]
  · rw [s0 h2, cal_s, w_f (t27.trans h1) (by decide), cal_s, nI_li (by omega)]
  · by_cases g : safe b (q + 46) (rN b q)
    · rw [s1 g, cal_s, w_s (by rw [t27]; exact h1), cal_s]
    · rw [s0 g, cal_s, w_s (by rw [t27]; exact h1), cal_s]
theorem c4_re {b : Nat → Nat} {q : Nat} (h : C4 b q) : rN b q + rE b q ≤ 100 := by
  obtain ⟨⟨_, _, _, h1⟩, m, h2, h3, h4⟩ := h
  have hnx2 : nxt b q = q + 46 + rN b q + rE b q := rfl
  have hrS : rS b q = q + 46 + rN b q := rfl
  have hp0 : pq b q ≤ rS b q + 20 := by
    unfold pq p0
    by_cases hw : 20 ≤ rE b q ∧ nm b (rS b q) 2 = 1 ∧ nm b (rS b q + 2) 2 = 16
    · rw [if_pos hw]; omega
    · rw [if_neg hw]; omega
  have hj : ∀ j, j ≤ m → pp b (pq b q) j ≤ pq b q + 12 * j := by
    intro j
    induction j with
    | zero => intro _; exact Nat.le_refl _
    | succ j ih =>
      intro hj
      have g1 := ih (by omega)
      have g2 := (h4 j (by omega)).2
      show pp b (pq b q) j + (4 + nm b (pp b (pq b q) j + 2) 2) ≤ _
      omega
  have := hj m (Nat.le_refl m)
  omega
def badL (b : Nat → Nat) (cf i κ pl : Nat) : Prop := (¬ C6 b cf (rs b cf i) ∧ κ = 6 ∧ pl = lcl b (rs b cf i)) ∨ (C6 b cf (rs b cf i) ∧ ((¬ C7 b (rs b cf i) ∧ κ = 7 ∧ pl = lcl b (rs b cf i)) ∨ (C7 b (rs b cf i) ∧ ((¬ C8 b cf (rs b cf i) ∧ κ = 8 ∧ pl = dp b (rs b cf i)) ∨ (C8 b cf (rs b cf i) ∧ ((¬ C9 b cf i ∧ κ = 9 ∧ pl = lcl b (rs b cf i)) ∨ (C9 b cf i ∧ ¬ safe b (rs b cf i + 46) (rN b (rs b cf i)) ∧ κ = 10 ∧ pl = rs b cf i)))))))
theorem f_cL {M : Me} {b : Nat → Nat} {cf i : Nat} (hb : Bb b) (hy : BYr M b) (hz : LZ M b (rs b cf i) cf) (h27 : M.1 91 27 = 0) (hi : i < 12) (hc : cf ≤ 2000) (hnx : nxt b (rs b cf i) ≤ 2000) (h4 : C4 b (rs b cf i)) (h5 : C5 b (rs b cf i)) (hg : ∀ j, j < i → good b cf j) (h113 : ∀ j, j < i → M.1 113 j = nI (lcl b (rs b cf j))) (h114 : ∀ j, j < i → M.1 114 j = nI (lend b (rs b cf j))) : (good b cf i → ∃ M', f_X5_checkLocal M 91 (nI i) (nI (rs b cf i)) (nI (flg b (rs b cf i))) = some ((), M') ∧ FR i M M' ∧ M'.1 91 27 = 0 ∧ M'.1 113 i = nI (lcl b (rs b cf i)) ∧ M'.1 114 i = nI (lend b (rs b cf i))) ∧ (∀ κ pl, badL b cf i κ pl → ∃ M', f_X5_checkLocal M 91 (nI i) (nI (rs b cf i)) (nI (flg b (rs b cf i))) = some ((), M') ∧ FR i M M' ∧ M'.1 91 27 = nI κ ∧ M'.1 91 28 = nI pl) := by
  have hre := c4_re h4
  obtain ⟨_, hdn⟩ := psz_dn h5
  have hnx2 : nxt b (rs b cf i) = rs b cf i + 46 + rN b (rs b cf i) + rE b (rs b cf i) := rfl
  have hlg : ∀ j, j < i → lcl b (rs b cf j) < 2 ^ 31 ∧ lend b (rs b cf j) < 2 ^ 31 := by
    intro j hj
    have g1 := (hg j hj).2.2.1.1
    have g2 := (hg j hj).2.2.2.2.1.1
    omega
  have t6 := c_6 (x1 := nI i) (x3 := nI (flg b (rs b cf i))) hb hy hz h27 hc
  have fl : ∀ (N : Me) (v w : Int32), (sI (sI N 91 27 v) 91 28 w).1 91 27 = v ∧ (sI (sI N 91 27 v) 91 28 w).1 91 28 = w := fun N v w => ⟨by rw [sI_ne (by omega), sI_eq], sI_eq⟩
  have full : ∀ (h6 : C6 b cf (rs b cf i)) (h7 : C7 b (rs b cf i)), (C8 b cf (rs b cf i) → f_X5_checkLocal M 91 (nI i) (nI (rs b cf i)) (nI (flg b (rs b cf i))) = j_X5_checkLocal_371 91 (nI i) (nI (rs b cf i)) 1 (nI (lcl b (rs b cf i))) (nI (dp b (rs b cf i))) (nI (lend b (rs b cf i))) M) ∧ (¬ C8 b cf (rs b cf i) → f_X5_checkLocal M 91 (nI i) (nI (rs b cf i)) (nI (flg b (rs b cf i))) = j_X5_checkLocal_371 91 (nI i) (nI (rs b cf i)) 0 (nI (lcl b (rs b cf i))) (nI (dp b (rs b cf i))) (nI (lend b (rs b cf i))) M) := by
    intro h6 h7
    have t8 := c_8 (M := M) (x1 := nI i) hb hy hc hnx h6 hdn hre
    have t7 := (c_7 (x1 := nI i) hb hy hz h27 hc hnx h5 h6 hre).1 h7
    exact ⟨fun h8 => (t6.1 h6).trans (t7.trans (t8.1 h8)), fun h8 => (t6.1 h6).trans (t7.trans (t8.2 h8))⟩
  have bnds : ∀ (h6 : C6 b cf (rs b cf i)) (h8 : C8 b cf (rs b cf i)), (∀ j, j ≤ i → lcl b (rs b cf j) < 2 ^ 31) ∧ ∀ j, j ≤ i → lend b (rs b cf j) < 2 ^ 31 := by
    intro h6 h8
    have g1 := h6.1
    have g2 := h8.1
    refine ⟨fun j hj => ?_, fun j hj => ?_⟩
    · by_cases e : j = i
      · subst e; omega
      · exact (hlg j (by omega)).1
    · by_cases e : j = i
      · subst e; omega
      · exact (hlg j (by omega)).2
  refine ⟨fun hgd => ?_, fun κ pl hbad => ?_⟩
  · obtain ⟨_, _, h6, h7, h8, h9, h10⟩ := hgd
    obtain ⟨b1, b2⟩ := bnds h6 h8
    obtain ⟨T, hT, k1, _, _⟩ := c_10 (l := lcl b (rs b cf i)) (e := lend b (rs b cf i)) hb hy hz hi (by omega) h4.1.2.2.1 h4.1.2.2.2
    refine ⟨T, ?_, ?_, ?_, ?_, ?_⟩
    · rw [(full h6 h7).1 h8]
      unfold j_X5_checkLocal_371
      rw [w_t h27, cal_s, (c_9 _ hi h27 b1 b2 h113 h114).1 h9]
      exact k1 h27 h10
    · rw [hT]; exact (FR.refl.up (by omega)).up (by omega)
    · rw [hT, sI_ne (by omega), sI_ne (by omega)]; exact h27
    · rw [hT, sI_ne (by omega), sI_eq]
    · rw [hT, sI_eq]
  · rcases hbad with ⟨h6, e1, e2⟩ | ⟨h6, hbad⟩
    · subst e1
      subst e2
      exact ⟨_, t6.2 h6, FR.refl.flt, (fl _ _ _).1, (fl _ _ _).2⟩
    rcases hbad with ⟨h7, e1, e2⟩ | ⟨h7, hbad⟩
    · subst e1
      subst e2
      exact ⟨_, (t6.1 h6).trans ((c_7 (x1 := nI i) hb hy hz h27 hc hnx h5 h6 hre).2 h7), FR.refl.flt, (fl _ _ _).1, (fl _ _ _).2⟩
    rcases hbad with ⟨h8, e1, e2⟩ | ⟨h8, hbad⟩
    · subst e1
      subst e2
      obtain ⟨N, hN⟩ : ∃ N, N = sI (sI M 91 27 8) 91 28 (nI (dp b (rs b cf i))) := ⟨_, rfl⟩
      have n27 : N.1 91 27 = 8 := by rw [hN]; exact (fl _ _ _).1
      have n28 : N.1 91 28 = nI (dp b (rs b cf i)) := by rw [hN]; exact (fl _ _ _).2
      have h27' : ¬ N.1 91 27 = 0 := by rw [n27]; decide
      have h6a := h6.1
      obtain ⟨T, hT, _, _, k1⟩ := c_10 (N := N) (l := lcl b (rs b cf i)) (e := lend b (rs b cf i)) hb (by rw [hN]; exact (hy.up (by omega)).up (by omega)) (by rw [hN]; exact (hz.up (by omega)).up (by omega)) hi (by omega) h4.1.2.2.1 h4.1.2.2.2
      refine ⟨T, ?_, ?_, ?_, ?_⟩
      · rw [(full h6 h7).2 h8]
        unfold j_X5_checkLocal_371 l_X5_checkLocal_386
        rw [w_f h27 (by decide), cal_s, nI_li (show dp b (rs b cf i) < 2 ^ 31 by unfold dp; omega), ← hN]
        exact (c_386 _ hi h27' FU 0 (by omega) (by unfold FU; omega)).trans (k1 h27')
      · rw [hT, hN]; exact (FR.refl.flt.up (by omega)).up (by omega)
      · rw [hT, sI_ne (by omega), sI_ne (by omega)]; exact n27
      · rw [hT, sI_ne (by omega), sI_ne (by omega)]; exact n28
    obtain ⟨b1, b2⟩ := bnds h6 h8
    have e371 : ∀ N : Me, (∀ kx, l_X5_checkLocal_386 kx 91 (nI i) (nI (rs b cf i)) (nI (lcl b (rs b cf i))) (nI (lend b (rs b cf i))) 0 M = kx (nI i) N) → f_X5_checkLocal M 91 (nI i) (nI (rs b cf i)) (nI (flg b (rs b cf i))) = chk (nI i) (ln (rf 91 42)) (bnd (sI N (rf 91 42) (nI i).toNatClampNeg (nI (lcl b (rs b cf i)))) (fun M24 => chk (nI i) (ln (rf 91 43)) (bnd (sI M24 (rf 91 43) (nI i).toNatClampNeg (nI (lend b (rs b cf i)))) (fun M25 => cal (f_X5_isSafe M25 91) (fun r26 M27 => cal (f_X5_want M27 91 r26 (10 : Int32) (nI (rs b cf i)).toInt64) (fun r28 M29 => some ((), M29))))))) := by
      intro N hN
      rw [(full h6 h7).1 h8]
      unfold j_X5_checkLocal_371
      rw [w_t h27, cal_s, hN]
    rcases hbad with ⟨h9, e1, e2⟩ | ⟨h9, h10, e1, e2⟩
    · subst e1
      subst e2
      obtain ⟨N, hN⟩ : ∃ N, N = sI (sI M 91 27 9) 91 28 (nI (lcl b (rs b cf i))) := ⟨_, rfl⟩
      have n27 : N.1 91 27 = 9 := by rw [hN]; exact (fl _ _ _).1
      have n28 : N.1 91 28 = nI (lcl b (rs b cf i)) := by rw [hN]; exact (fl _ _ _).2
      have h27' : ¬ N.1 91 27 = 0 := by rw [n27]; decide
      obtain ⟨T, hT, _, _, k1⟩ := c_10 (N := N) (l := lcl b (rs b cf i)) (e := lend b (rs b cf i)) hb (by rw [hN]; exact (hy.up (by omega)).up (by omega)) (by rw [hN]; exact (hz.up (by omega)).up (by omega)) hi (by omega) h4.1.2.2.1 h4.1.2.2.2
      refine ⟨T, ?_, ?_, ?_, ?_⟩
      · rw [e371 N (fun kx => by rw [hN]; exact (c_9 kx hi h27 b1 b2 h113 h114).2 h9)]
        exact k1 h27'
      · rw [hT, hN]; exact (FR.refl.flt.up (by omega)).up (by omega)
      · rw [hT, sI_ne (by omega), sI_ne (by omega)]; exact n27
      · rw [hT, sI_ne (by omega), sI_ne (by omega)]; exact n28
    · subst e1
      subst e2
      obtain ⟨T, hT, _, k1, _⟩ := c_10 (l := lcl b (rs b cf i)) (e := lend b (rs b cf i)) hb hy hz hi (by omega) h4.1.2.2.1 h4.1.2.2.2
      refine ⟨_, (e371 M (fun kx => (c_9 kx hi h27 b1 b2 h113 h114).1 h9)).trans (k1 h27 h10), ?_, (fl _ _ _).1, (fl _ _ _).2⟩
      rw [hT]
      exact FR.flt ((FR.refl.up (by omega)).up (by omega))
