theorem p_198Y {σ : Nat → Nat → Int32} {i : Nat} (e : EOK σ i) (hi : i < 12) (s0 : Int64) : CP (fun M => EY M σ) (fun M => j_X5_putFields_198 91 (nI i) s0 91 M) (fun M => some ((), M)) (lb s0 4 ++ lenB σ i) := by
  unfold j_X5_putFields_198 lenB
  rw [rf_91_6]
  refine CP.seq (st_EY σ) (CP.nY (n := 4) (by decide) (fun M hC => rfl)) ?_
  refine CP.chk (show i < ln 95 by rw [ln_95]; omega) (by decide) ?_
  refine CP.seq (st_EY σ) (CP.nY (n := 2) (by decide) (fun M hC => by rw [hC.at (by omega) (by omega) hi])) ?_
  refine CP.val (r0 := nI (exN σ i (cn σ 99 i))) (fun M hC => f_exY hC e hi) ?_
  exact CP.nY (n := 2) (by decide) (fun M hC => rfl)
theorem p_127Y {σ : Nat → Nat → Int32} {i : Nat} (e : EOK σ i) (hi : i < 12) (s0 : Int64) : CP (fun M => EY M σ) (fun M => j_X5_putFields_127 91 (nI i) 0 s0 91 M) (fun M => some ((), M)) (lb s0 4 ++ (lb (if σ 93 i = 2 then 4294967295 else (σ 104 i).toInt64) 4 ++ (lb (if σ 93 i = 2 then 4294967295 else (tsz σ i).toInt64) 4 ++ lenB σ i))) := by
  unfold j_X5_putFields_127
  refine CP.seq (st_EY σ) (CP.nY (n := 4) (by decide) (fun M hC => rfl)) ?_
  refine CP.iteT (fun M hC => rfl) ?_
  unfold j_X5_putFields_163
  rw [rf_91_4, rf_91_15]
  refine CP.chk (show i < ln 93 by rw [ln_93]; omega) (by decide) ?_
  by_cases q : σ 93 i = 2
  · rw [if_pos q, if_pos q]
    refine CP.iteT (fun M hC => by rw [hC.at (by omega) (by omega) hi]; exact q) ?_
    refine CP.seq (st_EY σ) (CP.nY (n := 4) (by decide) (fun M hC => rfl)) ?_
    refine CP.iteT (fun M hC => rfl) ?_
    refine CP.chk (show i < ln 93 by rw [ln_93]; omega) (by decide) ?_
    exact CP.iteT (fun M hC => by rw [hC.at (by omega) (by omega) hi]; exact q) (p_198Y e hi _)
  · rw [if_neg q, if_neg q]
    refine CP.iteF (fun M hC => by rw [hC.at (by omega) (by omega) hi]; exact q) ?_
    refine CP.chk (show i < ln 104 by rw [ln_104]; omega) (by decide) ?_
    refine CP.seq (st_EY σ) (CP.nY (n := 4) (by decide) (fun M hC => by rw [hC.at (by omega) (by omega) hi])) ?_
    refine CP.iteT (fun M hC => rfl) ?_
    refine CP.chk (show i < ln 93 by rw [ln_93]; omega) (by decide) ?_
    refine CP.iteF (fun M hC => by rw [hC.at (by omega) (by omega) hi]; exact q) ?_
    exact CP.val (r0 := tsz σ i) (fun M hC => f_tsY hC hi) (p_198Y e hi _)
theorem p_127Yb {σ : Nat → Nat → Int32} {i : Nat} (e : EOK σ i) (hi : i < 12) : CP (fun M => EY M σ) (fun M => j_X5_putFields_127 91 (nI i) 1 0 91 M) (fun M => some ((), M)) (lb 0 4 ++ (lb 0 8 ++ lenB σ i)) := by
  have e8 : lb 0 8 = lb 0 4 ++ lb 0 4 := by decide +kernel
  rw [e8, List.append_assoc]
  unfold j_X5_putFields_127
  refine CP.seq (st_EY σ) (CP.nY (n := 4) (by decide) (fun M hC => rfl)) ?_
  refine CP.iteF (fun M hC => by decide) ?_
  unfold j_X5_putFields_163
  refine CP.seq (st_EY σ) (CP.nY (n := 4) (by decide) (fun M hC => rfl)) ?_
  exact CP.iteF (fun M hC => by decide) (p_198Y e hi _)
theorem p_fldY {σ : Nat → Nat → Int32} {i : Nat} (hi : i < 12) (x3 : Int32) (l : List Nat) (h : CP (fun M => EY M σ) (fun M => if x3 = (0 : Int32) then cal (f_X5_sum M 91 (nI i)) (fun r16 M17 => j_X5_putFields_127 91 (nI i) x3 r16.toInt64 91 M17) else j_X5_putFields_127 91 (nI i) x3 (0 : Int64) 91 M) (fun M => some ((), M)) l) : CP (fun M => EY M σ) (fun M => j_X5_putFields_19 91 (nI i) x3 M) (fun M => some ((), M)) (kindB σ i ++ l) := by
  unfold kindB
  have h84 : ∀ s0 : Int64, CP (fun M => EY M σ) (fun M => j_X5_putFields_84 91 (nI i) x3 s0 91 M) (fun M => some ((), M)) (lb s0 2 ++ (lb (σ 96 i).toInt64 2 ++ (lb (σ 97 i).toInt64 2 ++ l))) := by
    intro s0
    unfold j_X5_putFields_84
    rw [rf_91_7, rf_91_8]
    refine CP.seq (st_EY σ) (CP.nY (n := 2) (by decide) (fun M hC => rfl)) ?_
    refine CP.chk (show i < ln 96 by rw [ln_96]; omega) (by decide) ?_
    refine CP.seq (st_EY σ) (CP.nY (n := 2) (by decide) (fun M hC => by rw [hC.at (by omega) (by omega) hi])) ?_
    refine CP.chk (show i < ln 97 by rw [ln_97]; omega) (by decide) ?_
    exact CP.seq (st_EY σ) (CP.nY (n := 2) (by decide) (fun M hC => by rw [hC.at (by omega) (by omega) hi])) h
  have h62 : ∀ s0 : Int64, CP (fun M => EY M σ) (fun M => j_X5_putFields_62 91 (nI i) x3 s0 91 M) (fun M => some ((), M)) (lb s0 2 ++ (lb (if σ 92 i = 1 then (8 : Int32) else 0).toInt64 2 ++ (lb (σ 96 i).toInt64 2 ++ (lb (σ 97 i).toInt64 2 ++ l)))) := by
    intro s0
    unfold j_X5_putFields_62
    rw [rf_91_3]
    refine CP.seq (st_EY σ) (CP.nY (n := 2) (by decide) (fun M hC => rfl)) ?_
    refine CP.chk (show i < ln 92 by rw [ln_92]; omega) (by decide) ?_
    by_cases q : σ 92 i = 1
    · rw [if_pos q]
      exact CP.iteT (fun M hC => by rw [hC.at (by omega) (by omega) hi]; exact q) (h84 8)
    · rw [if_neg q]
      exact CP.iteF (fun M hC => by rw [hC.at (by omega) (by omega) hi]; exact q) (h84 0)
  have h40 : ∀ s0 : Int64, CP (fun M => EY M σ) (fun M => j_X5_putFields_40 91 (nI i) x3 s0 91 M) (fun M => some ((), M)) (lb s0 2 ++ (lb (if σ 93 i = 1 then (8 : Int32) else 0).toInt64 2 ++ (lb (if σ 92 i = 1 then (8 : Int32) else 0).toInt64 2 ++ (lb (σ 96 i).toInt64 2 ++ (lb (σ 97 i).toInt64 2 ++ l))))) := by
    intro s0
    unfold j_X5_putFields_40
    rw [rf_91_4]
    refine CP.seq (st_EY σ) (CP.nY (n := 2) (by decide) (fun M hC => rfl)) ?_
    refine CP.chk (show i < ln 93 by rw [ln_93]; omega) (by decide) ?_
    by_cases q : σ 93 i = 1
    · rw [if_pos q]
      exact CP.iteT (fun M hC => by rw [hC.at (by omega) (by omega) hi]; exact q) (h62 8)
    · rw [if_neg q]
      exact CP.iteF (fun M hC => by rw [hC.at (by omega) (by omega) hi]; exact q) (h62 0)
  rw [List.append_assoc, List.append_assoc, List.append_assoc, List.append_assoc]
  unfold j_X5_putFields_19
  rw [rf_91_4]
  refine CP.chk (show i < ln 93 by rw [ln_93]; omega) (by decide) ?_
  by_cases q : σ 93 i = 2
  · rw [if_pos q]
    exact CP.iteT (fun M hC => by rw [hC.at (by omega) (by omega) hi]; exact q) (h40 45)
  · rw [if_neg q]
    exact CP.iteF (fun M hC => by rw [hC.at (by omega) (by omega) hi]; exact q) (h40 20)
theorem p_fld0Y {σ : Nat → Nat → Int32} {i : Nat} (e : EOK σ i) (hi : i < 12) : CP (fun M => EY M σ) (fun M => j_X5_putFields_19 91 (nI i) 0 M) (fun M => some ((), M)) (kindB σ i ++ (ssB σ i ++ lenB σ i)) := by
  refine p_fldY hi 0 _ ?_
  unfold ssB
  rw [List.append_assoc, List.append_assoc]
  refine CP.iteT (fun M hC => rfl) ?_
  exact CP.val (r0 := smv σ i) (fun M hC => f_smY hC e hi) (p_127Y e hi _)
theorem p_fldC {σ : Nat → Nat → Int32} {i : Nat} (e : EOK σ i) (hi : i < 12) : CP (fun M => EY M σ) (fun M => f_X5_putFields M 91 (nI i) 0) (fun M => some ((), M)) (kindB σ i ++ (ssB σ i ++ lenB σ i)) := by
  unfold f_X5_putFields
  exact CP.iteT (fun M hC => rfl) (p_fld0Y e hi)
theorem p_fldL {σ : Nat → Nat → Int32} {i : Nat} (e : EOK σ i) (hi : i < 12) : CP (fun M => EY M σ) (fun M => f_X5_putFields M 91 (nI i) 1) (fun M => some ((), M)) (kindB σ i ++ (bareB σ i ++ lenB σ i)) := by
  unfold f_X5_putFields bareB
  rw [rf_91_4]
  refine CP.iteF (fun M hC => by decide) ?_
  refine CP.chk (show i < ln 93 by rw [ln_93]; omega) (by decide) ?_
  by_cases q : σ 93 i = 1
  · rw [if_pos q, List.append_assoc]
    refine CP.iteT (fun M hC => by rw [hC.at (by omega) (by omega) hi]; exact q) ?_
    refine p_fldY hi 1 _ ?_
    exact CP.iteF (fun M hC => by decide) (p_127Yb e hi)
  · rw [if_neg q]
    exact CP.iteF (fun M hC => by rw [hC.at (by omega) (by omega) hi]; exact q) (p_fld0Y e hi)
theorem p_locY {σ : Nat → Nat → Int32} {i : Nat} (e : EOK σ i) (hb : Yb σ) (hi : i < 12) : CP (fun M => EY M σ) (fun M => f_X5_putLocal M 91 (nI i)) (fun M => some ((), M)) (locB σ i) := by
  have e0 := e
  obtain ⟨nl, dl, pc, g1, g2, g3, g4, g5, g6, g7, g8, g9, g10, g11, g12, g13, g14⟩ := e
  have hc : cn σ 104 i = dl := by unfold cn; rw [g6, nI_clamp (by omega)]
  have ea : locB σ i = lb 67324752 4 ++ ((kindB σ i ++ (bareB σ i ++ lenB σ i)) ++ (neB σ i ++ (dataB σ i ++ behB σ i))) := by
    unfold locB
    rw [List.append_assoc, List.append_assoc]
  rw [ea]
  unfold f_X5_putLocal
  refine CP.seq (st_EY σ) (CP.nY (n := 4) (by decide) (fun M hC => rfl)) ?_
  refine CP.seq (st_EY σ) (CP.call (p_fldL e0 hi)) ?_
  refine CP.seq (st_EY σ) (CP.call (p_neY e0 hb hi)) ?_
  unfold dataB l_X5_putLocal_21
  rw [hc, ← cat_ml]
  refine CP.seq (G := fun M13 => chk (nI i) (ln (rf 91 4)) (if (M13.1 (rf 91 4) (nI i).toNatClampNeg) = (1 : Int32) then cal (f_X5_put M13 91 (134695760 : Int64) (4 : Int32)) (fun _ M16 => cal (f_X5_sum M16 91 (nI i)) (fun r17 M18 => cal (f_X5_put M18 91 r17.toInt64 (4 : Int32)) (fun _ M20 => chk (nI i) (ln (rf 91 15)) (cal (f_X5_put M20 91 (((M20.1 (rf 91 15) (nI i).toNatClampNeg)).toInt64) (4 : Int32)) (fun _ M23 => cal (f_X5_trueSize M23 91 (nI i)) (fun r24 M25 => cal (f_X5_put M25 91 r24.toInt64 (4 : Int32)) (fun _ M27 => some ((), M27)))))))) else some ((), M13))) (st_EY σ) (CP.loop (C := fun M => EY M σ) _ 0 dl (by omega) (st_EY σ) (fun kb j _ hj => ?_) (fun kb M hM => ?_)) ?_
  · show CP _ (fun M => g_X5_putLocal_21 _ kb 91 (nI i) (nI j) M) _ _
    unfold g_X5_putLocal_21
    rw [rf_91_15, rf_91_16, mu_40, nI_add]
    refine CP.chk (show i < ln 104 by rw [ln_104]; omega) (by decide) ?_
    refine CP.iteF (fun M hC => by rw [hC.at (by omega) (by omega) hi, g6]; exact nI_ge (by omega) (by omega)) ?_
    refine CP.chk (show 40 * i + j < ln 105 by rw [ln_105]; omega) (by decide) ?_
    refine CP.fin (st_EY σ) (CP.oY (b := nb σ 105 (40 * i + j)) (nb_of (hb.2.2.1 _ (by omega))).2 (fun M hC => by rw [nI_clamp (by omega), hC 105 _ (by omega) (by omega), ← (nb_of (hb.2.2.1 _ (by omega))).1])) (fun M hC => by rw [bndV_s, nI_1])
  · show g_X5_putLocal_21 _ kb 91 (nI i) (nI (0 + dl)) M = _
    unfold g_X5_putLocal_21
    rw [rf_91_15, chk_n _ (show i < ln 104 by rw [ln_104]; omega) (by decide), hM.at (by omega) (by omega) hi, g6, Nat.zero_add, if_pos (nI_le (Nat.le_refl dl) (by omega))]
  · unfold behB
    rw [rf_91_4, rf_91_15]
    refine CP.chk (show i < ln 93 by rw [ln_93]; omega) (by decide) ?_
    by_cases q : σ 93 i = 1
    · have q2 : ¬ σ 93 i = 2 := by rw [q]; decide
      unfold ssB
      rw [if_pos q, if_neg q2, if_neg q2]
      refine CP.iteT (fun M hC => by rw [hC.at (by omega) (by omega) hi]; exact q) ?_
      refine CP.seq (st_EY σ) (CP.nY (n := 4) (by decide) (fun M hC => rfl)) ?_
      refine CP.val (r0 := smv σ i) (fun M hC => f_smY hC e0 hi) ?_
      refine CP.seq (st_EY σ) (CP.nY (n := 4) (by decide) (fun M hC => rfl)) ?_
      refine CP.chk (show i < ln 104 by rw [ln_104]; omega) (by decide) ?_
      refine CP.seq (st_EY σ) (CP.nY (n := 4) (by decide) (fun M hC => by rw [hC.at (by omega) (by omega) hi])) ?_
      refine CP.val (r0 := tsz σ i) (fun M hC => f_tsY hC hi) ?_
      exact CP.nY (n := 4) (by decide) (fun M hC => rfl)
    · rw [if_neg q]
      exact CP.iteF (fun M hC => by rw [hC.at (by omega) (by omega) hi]; exact q) (CP.nil (fun M hC => rfl))
/-- the centre's rows, the end: where also the places and the heads stand -/
def CY (σ : Nat → Nat → Int32) (pl : Nat → Int32) (n c : Nat) (M : Me) : Prop := EY M σ ∧ (∀ k, k < 12 → M.1 109 k = pl k) ∧ M.1 91 2 = nI n ∧ M.1 91 22 = nI c ∧ ∀ k, M.1 110 k = σ 110 k
theorem st_CY (σ : Nat → Nat → Int32) (pl : Nat → Int32) (n c : Nat) : St 111 91 25 nI (CY σ pl n c) := fun M z l h => ⟨st_EY σ M z l h.1, fun k hk => by rw [ap_ne _ _ _ (by omega) (by omega)]; exact h.2.1 k hk, by rw [ap_ne _ _ _ (by omega) (by omega)]; exact h.2.2.1, by rw [ap_ne _ _ _ (by omega) (by omega)]; exact h.2.2.2.1, fun k => by rw [ap_ne _ _ _ (by omega) (by omega)]; exact h.2.2.2.2 k⟩
theorem p_cenY {σ : Nat → Nat → Int32} {pl : Nat → Int32} {n c i : Nat} {γ : Type} {K : Me → Option γ} (e : EOK σ i) (hb : Yb σ) (hi : i < 12) : CP (CY σ pl n c) (fun M => cal (f_X5_put M 91 (33639248 : Int64) (4 : Int32)) (fun _ M22 => cal (f_X5_put M22 91 (20 : Int64) (2 : Int32)) (fun _ M24 => cal (f_X5_putFields M24 91 (nI i) (0 : Int32)) (fun _ M26 => cal (f_X5_put M26 91 (0 : Int64) (6 : Int32)) (fun _ M28 => chk (nI i) (ln (rf 91 9)) (cal (f_X5_put M28 91 (((M28.1 (rf 91 9) (nI i).toNatClampNeg)).toInt64) (4 : Int32)) (fun _ M31 => chk (nI i) (ln (rf 91 20)) (cal (f_X5_put M31 91 (((M31.1 (rf 91 20) (nI i).toNatClampNeg)).toInt64) (4 : Int32)) (fun _ M34 => cal (f_X5_putName M34 91 (nI i)) (fun _ M36 => K M36)))))))))) K (cenB σ i (pl i)) := by
  have m1 : ∀ M, CY σ pl n c M → EY M σ := fun M h => h.1
  have ea : cenB σ i (pl i) = lb 33639248 4 ++ (lb 20 2 ++ ((kindB σ i ++ (ssB σ i ++ lenB σ i)) ++ (lb 0 6 ++ (lb (σ 98 i).toInt64 4 ++ (lb (pl i).toInt64 4 ++ neB σ i))))) := by
    unfold cenB
    rw [List.append_assoc, List.append_assoc]
  rw [ea, rf_91_9, rf_91_20]
  refine CP.seq (st_CY σ pl n c) (CP.nY (n := 4) (by decide) (fun M hC => rfl)) ?_
  refine CP.seq (st_CY σ pl n c) (CP.nY (n := 2) (by decide) (fun M hC => rfl)) ?_
  refine CP.seq (st_CY σ pl n c) (CP.call ((p_fldC e hi).mono m1)) ?_
  refine CP.seq (st_CY σ pl n c) (CP.nY (n := 6) (by decide) (fun M hC => rfl)) ?_
  refine CP.chk (show i < ln 98 by rw [ln_98]; omega) (by decide) ?_
  refine CP.seq (st_CY σ pl n c) (CP.nY (n := 4) (by decide) (fun M hC => by rw [hC.1.at (by omega) (by omega) hi])) ?_
  refine CP.chk (show i < ln 109 by rw [ln_109]; omega) (by decide) ?_
  refine CP.seq (st_CY σ pl n c) (CP.nY (n := 4) (by decide) (fun M hC => by rw [nI_clamp (by omega), hC.2.1 i hi])) ?_
  exact CP.call ((p_neY e hb hi).mono m1)
theorem p_cmtY {σ : Nat → Nat → Int32} {pl : Nat → Int32} {n c : Nat} {kx : Int32 → Me → Option (Int32 × Me)} (hb : Yb σ) (hcl : c ≤ 12) : CP (CY σ pl n c) (fun M => l_X5_goes_275 kx 91 0 M) (fun M => kx (nI c) M) (ml (fun k => nb σ 110 k) c) := by
  unfold l_X5_goes_275
  rw [← cat_ml]
  refine CP.loop (C := CY σ pl n c) _ 0 c (by omega) (st_CY σ pl n c) (fun kb j _ hj => ?_) (fun kb M hM => ?_)
  · show CP _ (fun M => g_X5_goes_275 kx kb 91 (nI j) M) _ _
    unfold g_X5_goes_275
    rw [rf_91_21]
    refine CP.iteF (fun M hC => by rw [hC.2.2.2.1]; exact nI_ge (by omega) (by omega)) ?_
    refine CP.chk (show j < ln 110 by rw [ln_110]; omega) (by decide) ?_
    refine CP.fin (st_CY σ pl n c) (CP.oY (b := nb σ 110 j) (nb_of (hb.2.2.2.1 _ (by omega))).2 (fun M hC => by rw [nI_clamp (by omega), hC.2.2.2.2 j, ← (nb_of (hb.2.2.2.1 _ (by omega))).1])) (fun M hC => by rw [bndV_s, nI_1])
  · show g_X5_goes_275 kx kb 91 (nI (0 + c)) M = _
    unfold g_X5_goes_275
    rw [hM.2.2.2.1, Nat.zero_add, if_pos (nI_le (Nat.le_refl c) (by omega))]
