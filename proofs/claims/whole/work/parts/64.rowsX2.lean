theorem p_neX {σ : Nat → Nat → Int32} {i : Nat} (e : EOK σ i) (hb : Yb σ) (hi : i < 12) : PU 3 2 1 bI (fun M => EX M σ i) (fun M => f_X0_putNameAndExtra M (19 + 6 * i) 2) (neB σ i) := by
  have hpart := p_partX e hb hi
  have e0 := e
  obtain ⟨nl, dl, pc, g1, g2, g3, g4, g5, g6, g7, g8, g9, g10, g11, g12, g13, g14⟩ := e
  have hc : cn σ 95 i = nl := by unfold cn; rw [g5, nI_clamp (by omega)]
  have hl0 := ln_e0 hi
  unfold neB nameB f_X0_putNameAndExtra
  rw [hc, rf_e0 hi]
  refine PU.cX (x2 := 0) (X := fun _ => 0) (st_EX σ i) (fun M hC => rfl) (fun M hC => by rw [hC.k7]; exact g5) (fun M hC k hk => by rw [Nat.zero_add, hC.lt (by omega)]; exact (nb_of (hb.1 _ (by omega))).1) (by omega) (by omega) ?_
  unfold wideB
  by_cases q : σ 93 i = 2
  · rw [if_pos q]
    refine PU.iteT (fun M hC => by rw [hC.k6]; exact q) ?_
    rw [List.append_assoc, List.append_assoc, List.append_assoc]
    refine PU.nX (n := 2) (st_EX σ i) (by decide) (fun M hC => rfl) ?_
    refine PU.nX (n := 2) (st_EX σ i) (by decide) (fun M hC => rfl) ?_
    refine PU.val (r0 := tsz σ i) (fun M hC => f_tsX hC e0) ?_
    refine PU.nX (n := 8) (st_EX σ i) (by decide) (fun M hC => rfl) ?_
    exact PU.nX (n := 8) (st_EX σ i) (by decide) (fun M hC => by rw [hC.k8]) hpart
  · rw [if_neg q]
    exact PU.iteF (fun M hC => by rw [hC.k6]; exact q) hpart
theorem p_loc50X {σ : Nat → Nat → Int32} {i : Nat} (e : EOK σ i) (hb : Yb σ) (hi : i < 12) : PU 3 2 1 bI (fun M => EX M σ i) (fun M => j_X0_putLocal_50 (19 + 6 * i) 2 M) (lenB σ i ++ (neB σ i ++ (dataB σ i ++ behB σ i))) := by
  have e0 := e
  obtain ⟨nl, dl, pc, g1, g2, g3, g4, g5, g6, g7, g8, g9, g10, g11, g12, g13, g14⟩ := e
  have hc : cn σ 104 i = dl := by unfold cn; rw [g6, nI_clamp (by omega)]
  have hl1 := ln_e1 hi
  unfold lenB j_X0_putLocal_50
  rw [List.append_assoc]
  refine PU.nX (n := 2) (st_EX σ i) (by decide) (fun M hC => by rw [hC.k7]) ?_
  refine PU.val (r0 := nI (exN σ i (cn σ 99 i))) (fun M hC => f_exX hC e0 hi) ?_
  refine PU.nX (n := 2) (st_EX σ i) (by decide) (fun M hC => rfl) ?_
  refine PU.seq (by decide) (st_EX σ i) (p_neX e0 hb hi) ?_
  unfold dataB behB
  rw [hc, rf_e1 hi]
  refine PU.cX (x2 := 0) (X := fun _ => 0) (st_EX σ i) (fun M hC => rfl) (fun M hC => by rw [hC.k8]; exact g6) (fun M hC k hk => by rw [Nat.zero_add, hC.oc (by omega)]; exact (nb_of (hb.2.2.1 _ (by omega))).1) (by omega) (by omega) ?_
  by_cases q : σ 93 i = 1
  · rw [if_pos q]
    refine PU.iteT (fun M hC => by rw [hC.k6]; exact q) ?_
    exact PU.nX (n := 4) (st_EX σ i) (by decide) (fun M hC => rfl) (PU.last (p_ssX e0 hi))
  · rw [if_neg q]
    exact PU.iteF (fun M hC => by rw [hC.k6]; exact q) PU.done
theorem p_locX {σ : Nat → Nat → Int32} {i : Nat} (e : EOK σ i) (hb : Yb σ) (hi : i < 12) {M : Me} {z : Nat} (hM : EX M σ i) (hz : M.1 2 1 = nI z) (hl : z + (locB σ i).length ≤ 2000) : f_X0_putLocal M (19 + 6 * i) 2 = some ((), ap 3 2 1 bI (sI M (19 + 6 * i) 17 (nI z)) z (locB σ i)) := by
  have hp : PU 3 2 1 bI (fun M => EX M σ i) (fun M1 => cal (f_X3_putNumber M1 2 (67324752 : Int64) (4 : Int32)) (fun _ M3 => cal (f_X0_putKindOfRow M3 (19 + 6 * i) 2) (fun _ M5 => if (M5.1 (19 + 6 * i) 6) = (1 : Int32) then cal (f_X3_putNumber M5 2 (0 : Int64) (4 : Int32)) (fun _ M23 => cal (f_X3_putNumber M23 2 (0 : Int64) (8 : Int32)) (fun _ M25 => j_X0_putLocal_50 (19 + 6 * i) 2 M25)) else cal (f_X0_putSumAndSizes M5 (19 + 6 * i) 2) (fun _ M7 => j_X0_putLocal_50 (19 + 6 * i) 2 M7)))) (locB σ i) := by
    unfold locB bareB
    refine PU.nX (n := 4) (st_EX σ i) (by decide) (fun M hC => rfl) ?_
    refine PU.seq (by decide) (st_EX σ i) p_kindX ?_
    by_cases q : σ 93 i = 1
    · rw [if_pos q, List.append_assoc]
      refine PU.iteT (fun M hC => by rw [hC.k6]; exact q) ?_
      refine PU.nX (n := 4) (st_EX σ i) (by decide) (fun M hC => rfl) ?_
      exact PU.nX (n := 8) (st_EX σ i) (by decide) (fun M hC => rfl) (p_loc50X e hb hi)
    · rw [if_neg q]
      refine PU.iteF (fun M hC => by rw [hC.k6]; exact q) ?_
      exact PU.seq (by decide) (st_EX σ i) (p_ssX e hi) (p_loc50X e hb hi)
  unfold f_X0_putLocal
  rw [hz, bnd_s]
  exact hp (sI M (19 + 6 * i) 17 (nI z)) z (hM.stab (fun x y _ _ h => sI_ne (by omega))) (by rw [sI_ne (by omega)]; exact hz) hl
theorem p_cenX {σ : Nat → Nat → Int32} {i : Nat} {v : Int32} (e : EOK σ i) (hb : Yb σ) (hi : i < 12) : PU 3 2 1 bI (fun M => EX M σ i ∧ M.1 (19 + 6 * i) 17 = v) (fun M => f_X0_putCentre M (19 + 6 * i) 2) (cenB σ i v) := by
  have hs : St 3 2 1 bI (fun M => EX M σ i ∧ M.1 (19 + 6 * i) 17 = v) := fun M z l h => ⟨st_EX σ i M z l h.1, by rw [ap_ne _ _ _ (by omega) (by omega)]; exact h.2⟩
  have m1 : ∀ M, (EX M σ i ∧ M.1 (19 + 6 * i) 17 = v) → EX M σ i := fun M h => h.1
  unfold cenB f_X0_putCentre
  refine PU.nX (n := 4) hs (by decide) (fun M hC => rfl) ?_
  refine PU.nX (n := 2) hs (by decide) (fun M hC => rfl) ?_
  refine PU.seq (by decide) hs (p_kindX.mono m1) ?_
  refine PU.seq (by decide) hs ((p_ssX e hi).mono m1) ?_
  unfold lenB
  rw [List.append_assoc]
  refine PU.nX (n := 2) hs (by decide) (fun M hC => by rw [hC.1.k7]) ?_
  refine PU.val (r0 := nI (exN σ i (cn σ 99 i))) (fun M hC => f_exX hC.1 e hi) ?_
  refine PU.nX (n := 2) hs (by decide) (fun M hC => rfl) ?_
  refine PU.nX (n := 6) hs (by decide) (fun M hC => rfl) ?_
  refine PU.nX (n := 4) hs (by decide) (fun M hC => by rw [hC.1.k16]) ?_
  refine PU.nX (n := 4) hs (by decide) (fun M hC => by rw [hC.2]) ?_
  exact PU.last ((p_neX e hb hi).mono m1)
def endB (σ : Nat → Nat → Int32) (n c zc ze : Nat) : List Nat := lb 101010256 4 ++ (lb 0 4 ++ (lb (nI n).toInt64 2 ++ (lb (nI n).toInt64 2 ++ (lb (nI (ze - zc)).toInt64 4 ++ (lb (nI zc).toInt64 4 ++ (lb (nI c).toInt64 2 ++ ml (fun k => nb σ 110 k) c))))))
theorem p_endX {σ : Nat → Nat → Int32} {n c zc ze : Nat} (hb : Yb σ) (hcl : c ≤ 12) {M : Me} (h4 : M.1 0 4 = nI n) (h5 : M.1 0 5 = nI c) (h18 : ∀ k, k < 12 → M.1 18 k &&& 255 = σ 110 k) (hz : M.1 2 1 = nI ze) (hzz : zc ≤ ze) (hl : ze + (endB σ n c zc ze).length ≤ 2000) : f_X4_putEnd M 0 (nI zc) = some ((), ap 3 2 1 bI M ze (endB σ n c zc ze)) := by
  have hs : St 3 2 1 bI (fun M : Me => M.1 0 4 = nI n ∧ M.1 0 5 = nI c ∧ ∀ k, k < 12 → M.1 18 k &&& 255 = σ 110 k) := fun M z l h => ⟨by rw [ap_ne _ _ _ (by omega) (by omega)]; exact h.1, by rw [ap_ne _ _ _ (by omega) (by omega)]; exact h.2.1, fun k hk => by rw [ap_ne _ _ _ (by omega) (by omega)]; exact h.2.2 k hk⟩
  have hp : PU 3 2 1 bI (fun M : Me => M.1 0 4 = nI n ∧ M.1 0 5 = nI c ∧ ∀ k, k < 12 → M.1 18 k &&& 255 = σ 110 k) (fun M => cal (f_X3_putNumber M 2 (101010256 : Int64) (4 : Int32)) (fun _ M3 => cal (f_X3_putNumber M3 2 (0 : Int64) (4 : Int32)) (fun _ M5 => cal (f_X3_putNumber M5 2 (((M5.1 0 4)).toInt64) (2 : Int32)) (fun _ M7 => cal (f_X3_putNumber M7 2 (((M7.1 0 4)).toInt64) (2 : Int32)) (fun _ M9 => cal (f_X3_putNumber M9 2 (nI (ze - zc)).toInt64 (4 : Int32)) (fun _ M11 => cal (f_X3_putNumber M11 2 (nI zc).toInt64 (4 : Int32)) (fun _ M13 => cal (f_X3_putNumber M13 2 (((M13.1 0 5)).toInt64) (2 : Int32)) (fun _ M15 => cal (f_X3_putCells M15 2 18 (0 : Int32) (M15.1 0 5)) (fun _ M17 => some ((), M17)))))))))) (endB σ n c zc ze) := by
    unfold endB
    refine PU.nX (n := 4) hs (by decide) (fun M hC => rfl) ?_
    refine PU.nX (n := 4) hs (by decide) (fun M hC => rfl) ?_
    refine PU.nX (n := 2) hs (by decide) (fun M hC => by rw [hC.1]) ?_
    refine PU.nX (n := 2) hs (by decide) (fun M hC => by rw [hC.1]) ?_
    refine PU.nX (n := 4) hs (by decide) (fun M hC => rfl) ?_
    refine PU.nX (n := 4) hs (by decide) (fun M hC => rfl) ?_
    refine PU.nX (n := 2) hs (by decide) (fun M hC => by rw [hC.2.1]) ?_
    have h5 := PU.cX (C := fun M : Me => M.1 0 4 = nI n ∧ M.1 0 5 = nI c ∧ ∀ k, k < 12 → M.1 18 k &&& 255 = σ 110 k) (a1 := 18) (x2 := 0) (n := c) (g := fun k => nb σ 110 k) (X := fun _ => 0) (N := fun M => M.1 0 5) hs (fun M hC => rfl) (fun M hC => hC.2.1) (fun M hC k hk => by rw [Nat.zero_add, hC.2.2 k (by omega)]; exact (nb_of (hb.2.2.2.1 _ (by omega))).1) (by rw [ln_18]; omega) (by decide) PU.done
    rw [List.append_nil] at h5
    exact h5
  unfold f_X4_putEnd
  rw [rf_0_1, rf_0_3, hz, bndV_s, pk_sub hzz]
  exact hp M ze ⟨h4, h5, h18⟩ hz hl
