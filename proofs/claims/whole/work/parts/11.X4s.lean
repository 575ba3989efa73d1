def f_X4_octetOf (M : Me) (y0 : Int64) (x2 : Int32) (x3 : Int32) : Option (Int32 × Me) := some (((lUshr y0 ((8 : Int32) * ((x2 - (1 : Int32)) - x3))).toInt32 &&& (255 : Int32)), M)
set_option maxHeartbeats 4000000 in
set_option maxRecDepth 100000 in
theorem c_X4_octetOf (l : Launch) (M : Me) (y0 : Int64) (x2 : Int32) (x3 : Int32) : CN l yX4_octetOf cX4_octetOf 4 (some .int) (k2_rm 0 0) eI (fun b => [.long y0, .int x2, .int x3]) M (f_X4_octetOf M y0 x2 x3) := by
  refine CN.of RX4 (fun b => [(0, .long y0), (2, .int x2), (3, .int x3)]) (by decide) rfl (fun b => Nat.le_of_ble_eq_true rfl) (fun b => rfl) ?_
  intro p e s m args below meth c D T b hC
  unfold f_X4_octetOf
  refine n_lload_n hC 0 rfl dX4_octetOf_0 ?_
  refine n_bipush hC (8 : Int32) (by decide) dX4_octetOf_1 ?_
  refine n_iload_n hC 1 rfl dX4_octetOf_3 ?_
  refine n_iconst hC (1 : Int32) (by decide) dX4_octetOf_4 ?_
  refine n_isub hC dX4_octetOf_5 ?_
  refine n_iload_n hC 2 rfl dX4_octetOf_6 ?_
  refine n_isub hC dX4_octetOf_7 ?_
  refine n_imul hC dX4_octetOf_8 ?_
  refine n_lushr hC dX4_octetOf_9 ?_
  refine n_l2i hC dX4_octetOf_10 ?_
  refine n_sipush hC (255 : Int32) (by decide) dX4_octetOf_11 ?_
  refine n_iand hC dX4_octetOf_14 ?_
  exact n_iret hC dX4_octetOf_15
def g_X4_spread_3 (kx : Int32 → Me → Option (Unit × Me)) (kb : Int32 × Me → Option (Unit × Me)) (y0 : Int64) (x2 : Int32) (a3 : Nat) (x4 : Int32) (x5 : Int32) (M : Me) : Option (Unit × Me) := if x2 ≤ x5 then kx x5 M else if (nI (ln a3)) ≤ (x4 + x5) then kx x5 M else cal (f_X4_octetOf M y0 x2 x5) (fun r1 M2 => chk (x4 + x5) (ln a3) (bnd (sI M2 a3 (x4 + x5).toNatClampNeg (vp_nar .byte r1.toInt8.toInt32)) (fun M3 => bndV (x5 + (1 : Int32)) (fun v4 => kb (v4, M3)))))
set_option maxHeartbeats 4000000 in
set_option maxRecDepth 100000 in
theorem b_X4_spread_3_g {p : Program} {l : Launch} {e : Env} {s : State} {m : MethodId} {args : Array Value} {below : List Frame} {meth : Method} {c : Code} {D : va_G} {T : Nat → ClassId} {b : Nat} (hC : CX p s m args meth c cX4_spread 6 RX4 none D T) (y0 : Int64) (x2 : Int32) (a3 : Nat) (x4 : Int32) (x5 : Int32) (h3 : kd a3 = 6) (kx : Int32 → Me → Option (Unit × Me)) (hkx : ∀ (x5 : Int32) (M : Me), GN p l e (k2_rm 1 23) s m args below meth c D T b 6 eV 40 [] [] M (kx x5 M)) (kb : Int32 × Me → Option (Unit × Me)) (hkb : ∀ z : Int32 × Me, GN p l e (k2_rm 1 23) s m args below meth c D T b 6 eV 3 [(0, .long y0), (2, .int x2), (3, .ref (b + a3)), (4, .int x4), (5, .int z.1)] [] z.2 (kb z)) (M : Me) : GN p l e (k2_rm 1 23) s m args below meth c D T b 6 eV 3 [(0, .long y0), (2, .int x2), (3, .ref (b + a3)), (4, .int x4), (5, .int x5)] [] M (g_X4_spread_3 kx kb y0 x2 a3 x4 x5 M) := by
  unfold g_X4_spread_3
  refine n_iload hC 4 rfl dX4_spread_3 ?_
  refine n_iload_n hC 1 rfl dX4_spread_5 ?_
  refine n_icmp_ge hC 40 dX4_spread_6 (by decide) ?_ ?_
  · exact GN.sub [] rfl (hkx x5 M)
  refine n_iload hC 3 rfl dX4_spread_9 ?_
  refine n_iload hC 4 rfl dX4_spread_11 ?_
  refine n_iadd hC dX4_spread_13 ?_
  refine n_aload_n hC 2 rfl dX4_spread_14 ?_
  refine n_alen hC h3 (by decide) dX4_spread_15 ?_
  refine n_icmp_ge hC 40 dX4_spread_16 (by decide) ?_ ?_
  · exact GN.sub [] rfl (hkx x5 M)
  refine n_aload_n hC 2 rfl dX4_spread_19 ?_
  refine n_iload hC 3 rfl dX4_spread_20 ?_
  refine n_iload hC 4 rfl dX4_spread_22 ?_
  refine n_iadd hC dX4_spread_24 ?_
  refine n_lload_n hC 0 rfl dX4_spread_25 ?_
  refine n_iload_n hC 1 rfl dX4_spread_26 ?_
  refine n_iload hC 4 rfl dX4_spread_27 ?_
  refine n_callSi (As := [.long y0, .int x2, .int x5]) (rest := [.int (x4 + x5), .ref (b + a3)]) hC (c_X4_octetOf l M y0 x2 x5) my_X4_octetOf ml_X4_244 rfl rfl rfl (Nat.le_of_ble_eq_true rfl) ⟨by decide, by decide⟩ dX4_spread_29 (fun r1 M2 => ?_)
  refine n_i2b hC dX4_spread_32 ?_
  refine n_bast hC h3 dX4_spread_33 (fun M3 => ?_)
  refine n_iincB hC (1 : Int32) (by decide) (fun v4 => [(5, .int v4), (0, .long y0), (2, .int x2), (3, .ref (b + a3)), (4, .int x4)]) 4 rfl (by decide) (fun _ => rfl) dX4_spread_34 (fun v4 => ?_)
  refine n_goto hC (tgt := 3) (by decide) dX4_spread_37 ?_
  exact GN.sub [1, 2, 3, 4, 0] rfl (hkb (v4, M3))
def l_X4_spread_3 (kx : Int32 → Me → Option (Unit × Me)) (y0 : Int64) (x2 : Int32) (a3 : Nat) (x4 : Int32) (x5 : Int32) (M : Me) : Option (Unit × Me) := lp (fun kb z => g_X4_spread_3 kx kb y0 x2 a3 x4 z.1 z.2) FU (x5, M)
set_option maxHeartbeats 4000000 in
set_option maxRecDepth 100000 in
theorem b_X4_spread_3 {p : Program} {l : Launch} {e : Env} {s : State} {m : MethodId} {args : Array Value} {below : List Frame} {meth : Method} {c : Code} {D : va_G} {T : Nat → ClassId} {b : Nat} (hC : CX p s m args meth c cX4_spread 6 RX4 none D T) (y0 : Int64) (x2 : Int32) (a3 : Nat) (x4 : Int32) (x5 : Int32) (h3 : kd a3 = 6) (kx : Int32 → Me → Option (Unit × Me)) (hkx : ∀ (x5 : Int32) (M : Me), GN p l e (k2_rm 1 23) s m args below meth c D T b 6 eV 40 [] [] M (kx x5 M)) (M : Me) : GN p l e (k2_rm 1 23) s m args below meth c D T b 6 eV 3 [(0, .long y0), (2, .int x2), (3, .ref (b + a3)), (4, .int x4), (5, .int x5)] [] M (l_X4_spread_3 kx y0 x2 a3 x4 x5 M) := by
  exact n_loop (σ := Int32 × Me) (fun z => [(0, .long y0), (2, .int x2), (3, .ref (b + a3)), (4, .int x4), (5, .int z.1)]) (fun z => z.2) (fun kb hkb z => b_X4_spread_3_g hC y0 x2 a3 x4 z.1 h3 kx hkx kb hkb z.2) FU (x5, M)
def f_X4_spread (M : Me) (y0 : Int64) (x2 : Int32) (a3 : Nat) (x4 : Int32) : Option (Unit × Me) := l_X4_spread_3 (fun v5 M6 => some ((), M6)) y0 x2 a3 x4 (0 : Int32) M
set_option maxHeartbeats 4000000 in
set_option maxRecDepth 100000 in
theorem c_X4_spread (l : Launch) (M : Me) (y0 : Int64) (x2 : Int32) (a3 : Nat) (x4 : Int32) (h3 : kd a3 = 6) : CN l yX4_spread cX4_spread 6 none (k2_rm 1 23) eV (fun b => [.long y0, .int x2, .ref (b + a3), .int x4]) M (f_X4_spread M y0 x2 a3 x4) := by
  refine CN.of RX4 (fun b => [(0, .long y0), (2, .int x2), (3, .ref (b + a3)), (4, .int x4)]) (by decide) rfl (fun b => Nat.le_of_ble_eq_true rfl) (fun b => rfl) ?_
  intro p e s m args below meth c D T b hC
  unfold f_X4_spread
  refine n_iconst hC (0 : Int32) (by decide) dX4_spread_0 ?_
  refine n_istore hC [(5, .int (0 : Int32)), (0, .long y0), (2, .int x2), (3, .ref (b + a3)), (4, .int x4)] (by decide) rfl dX4_spread_1 ?_
  refine GN.sub [1, 2, 3, 4, 0] rfl (b_X4_spread_3 hC y0 x2 a3 x4 (0 : Int32) h3 _ (fun v5 M6 => ?_) M)
  exact n_vret hC dX4_spread_40
def j_X4_sumOf_53 (kx : Int32 → Int32 → Me → Option (Int32 × Me)) (kb : Int32 × Int32 × Me → Option (Int32 × Me)) (a0 : Nat) (x1 : Int32) (x2 : Int32) (x3 : Int32) (x4 : Int32) (s0 : Int32) (M : Me) : Option (Int32 × Me) := bndV (x4 + (1 : Int32)) (fun v3 => kb (s0, v3, M))
set_option maxHeartbeats 4000000 in
set_option maxRecDepth 100000 in
theorem b_X4_sumOf_53 {p : Program} {l : Launch} {e : Env} {s : State} {m : MethodId} {args : Array Value} {below : List Frame} {meth : Method} {c : Code} {D : va_G} {T : Nat → ClassId} {b : Nat} (hC : CX p s m args meth c cX4_sumOf 5 RX4 (some .int) D T) (a0 : Nat) (x1 : Int32) (x2 : Int32) (x3 : Int32) (x4 : Int32) (s0 : Int32) (h0 : kd a0 = 6) (kx : Int32 → Int32 → Me → Option (Int32 × Me)) (hkx : ∀ (x2 : Int32) (x4 : Int32) (M : Me), GN p l e (k2_rm 0 0) s m args below meth c D T b 5 eI 60 [(0, .ref (b + a0)), (1, .int x1), (2, .int x2), (3, .int x3)] [] M (kx x2 x4 M)) (kb : Int32 × Int32 × Me → Option (Int32 × Me)) (hkb : ∀ z : Int32 × Int32 × Me, GN p l e (k2_rm 0 0) s m args below meth c D T b 5 eI 28 [(0, .ref (b + a0)), (1, .int x1), (2, .int z.1), (3, .int x3), (4, .int z.2.1)] [] z.2.2 (kb z)) (M : Me) : GN p l e (k2_rm 0 0) s m args below meth c D T b 5 eI 53 [(0, .ref (b + a0)), (1, .int x1), (2, .int x2), (3, .int x3), (4, .int x4)] [.int s0] M (j_X4_sumOf_53 kx kb a0 x1 x2 x3 x4 s0 M) := by
  unfold j_X4_sumOf_53
  refine n_istore_n hC rfl [(2, .int s0), (0, .ref (b + a0)), (1, .int x1), (3, .int x3), (4, .int x4)] (by decide) rfl dX4_sumOf_53 ?_
  refine n_iincB hC (1 : Int32) (by decide) (fun v3 => [(4, .int v3), (2, .int s0), (0, .ref (b + a0)), (1, .int x1), (3, .int x3)]) 4 rfl (by decide) (fun _ => rfl) dX4_sumOf_54 (fun v3 => ?_)
  refine n_goto hC (tgt := 28) (by decide) dX4_sumOf_57 ?_
  exact GN.sub [2, 3, 1, 4, 0] rfl (hkb (s0, v3, M))
def g_X4_sumOf_28 (kx : Int32 → Int32 → Me → Option (Int32 × Me)) (kb : Int32 × Int32 × Me → Option (Int32 × Me)) (a0 : Nat) (x1 : Int32) (x2 : Int32) (x3 : Int32) (x4 : Int32) (M : Me) : Option (Int32 × Me) := if (8 : Int32) ≤ x4 then kx x2 x4 M else if (x2 &&& (1 : Int32)) = (0 : Int32) then j_X4_sumOf_53 kx kb a0 x1 x2 x3 x4 (iUshr x2 (1 : Int32)) M else j_X4_sumOf_53 kx kb a0 x1 x2 x3 x4 ((iUshr x2 (1 : Int32)) ^^^ (-306674912 : Int32)) M
set_option maxHeartbeats 4000000 in
set_option maxRecDepth 100000 in
theorem b_X4_sumOf_28_g {p : Program} {l : Launch} {e : Env} {s : State} {m : MethodId} {args : Array Value} {below : List Frame} {meth : Method} {c : Code} {D : va_G} {T : Nat → ClassId} {b : Nat} (hC : CX p s m args meth c cX4_sumOf 5 RX4 (some .int) D T) (a0 : Nat) (x1 : Int32) (x2 : Int32) (x3 : Int32) (x4 : Int32) (h0 : kd a0 = 6) (kx : Int32 → Int32 → Me → Option (Int32 × Me)) (hkx : ∀ (x2 : Int32) (x4 : Int32) (M : Me), GN p l e (k2_rm 0 0) s m args below meth c D T b 5 eI 60 [(0, .ref (b + a0)), (1, .int x1), (2, .int x2), (3, .int x3)] [] M (kx x2 x4 M)) (kb : Int32 × Int32 × Me → Option (Int32 × Me)) (hkb : ∀ z : Int32 × Int32 × Me, GN p l e (k2_rm 0 0) s m args below meth c D T b 5 eI 28 [(0, .ref (b + a0)), (1, .int x1), (2, .int z.1), (3, .int x3), (4, .int z.2.1)] [] z.2.2 (kb z)) (M : Me) : GN p l e (k2_rm 0 0) s m args below meth c D T b 5 eI 28 [(0, .ref (b + a0)), (1, .int x1), (2, .int x2), (3, .int x3), (4, .int x4)] [] M (g_X4_sumOf_28 kx kb a0 x1 x2 x3 x4 M) := by
  unfold g_X4_sumOf_28
  refine n_iload hC 4 rfl dX4_sumOf_28 ?_
  refine n_bipush hC (8 : Int32) (by decide) dX4_sumOf_30 ?_
  refine n_icmp_ge hC 60 dX4_sumOf_32 (by decide) ?_ ?_
  · exact GN.sub [0, 1, 2, 3] rfl (hkx x2 x4 M)
  refine n_iload_n hC 2 rfl dX4_sumOf_35 ?_
  refine n_iconst hC (1 : Int32) (by decide) dX4_sumOf_36 ?_
  refine n_iand hC dX4_sumOf_37 ?_
  refine n_if_ne hC 47 dX4_sumOf_38 (by decide) ?_ ?_
  · refine n_iload_n hC 2 rfl dX4_sumOf_47 ?_
    refine n_iconst hC (1 : Int32) (by decide) dX4_sumOf_48 ?_
    refine n_iushr hC dX4_sumOf_49 ?_
    refine n_ldc hC (-306674912 : Int32) kc_X4_248 dX4_sumOf_50 ?_
    refine n_ixor hC dX4_sumOf_52 ?_
    exact GN.sub [0, 1, 2, 3, 4] rfl (b_X4_sumOf_53 hC a0 x1 x2 x3 x4 ((iUshr x2 (1 : Int32)) ^^^ (-306674912 : Int32)) h0 kx hkx kb hkb M)
  refine n_iload_n hC 2 rfl dX4_sumOf_41 ?_
  refine n_iconst hC (1 : Int32) (by decide) dX4_sumOf_42 ?_
  refine n_iushr hC dX4_sumOf_43 ?_
  refine n_goto hC (tgt := 53) (by decide) dX4_sumOf_44 ?_
  exact GN.sub [0, 1, 2, 3, 4] rfl (b_X4_sumOf_53 hC a0 x1 x2 x3 x4 (iUshr x2 (1 : Int32)) h0 kx hkx kb hkb M)
def l_X4_sumOf_28 (kx : Int32 → Int32 → Me → Option (Int32 × Me)) (a0 : Nat) (x1 : Int32) (x2 : Int32) (x3 : Int32) (x4 : Int32) (M : Me) : Option (Int32 × Me) := lp (fun kb z => g_X4_sumOf_28 kx kb a0 x1 z.1 x3 z.2.1 z.2.2) FU (x2, x4, M)
set_option maxHeartbeats 4000000 in
set_option maxRecDepth 100000 in
theorem b_X4_sumOf_28 {p : Program} {l : Launch} {e : Env} {s : State} {m : MethodId} {args : Array Value} {below : List Frame} {meth : Method} {c : Code} {D : va_G} {T : Nat → ClassId} {b : Nat} (hC : CX p s m args meth c cX4_sumOf 5 RX4 (some .int) D T) (a0 : Nat) (x1 : Int32) (x2 : Int32) (x3 : Int32) (x4 : Int32) (h0 : kd a0 = 6) (kx : Int32 → Int32 → Me → Option (Int32 × Me)) (hkx : ∀ (x2 : Int32) (x4 : Int32) (M : Me), GN p l e (k2_rm 0 0) s m args below meth c D T b 5 eI 60 [(0, .ref (b + a0)), (1, .int x1), (2, .int x2), (3, .int x3)] [] M (kx x2 x4 M)) (M : Me) : GN p l e (k2_rm 0 0) s m args below meth c D T b 5 eI 28 [(0, .ref (b + a0)), (1, .int x1), (2, .int x2), (3, .int x3), (4, .int x4)] [] M (l_X4_sumOf_28 kx a0 x1 x2 x3 x4 M) := by
  exact n_loop (σ := Int32 × Int32 × Me) (fun z => [(0, .ref (b + a0)), (1, .int x1), (2, .int z.1), (3, .int x3), (4, .int z.2.1)]) (fun z => z.2.2) (fun kb hkb z => b_X4_sumOf_28_g hC a0 x1 z.1 x3 z.2.1 h0 kx hkx kb hkb z.2.2) FU (x2, x4, M)
def g_X4_sumOf_4 (kx : Int32 → Int32 → Me → Option (Int32 × Me)) (kb : Int32 × Int32 × Me → Option (Int32 × Me)) (a0 : Nat) (x1 : Int32) (x2 : Int32) (x3 : Int32) (M : Me) : Option (Int32 × Me) := if x1 ≤ x3 then kx x2 x3 M else if (nI (ln a0)) ≤ x3 then kx x2 x3 M else chk x3 (ln a0) (bndV (x2 ^^^ ((M.1 a0 x3.toNatClampNeg) &&& (255 : Int32))) (fun v2 => l_X4_sumOf_28 (fun v4 v5 M6 => bndV (x3 + (1 : Int32)) (fun v7 => kb (v4, v7, M6))) a0 x1 v2 x3 (0 : Int32) M))
set_option maxHeartbeats 4000000 in
set_option maxRecDepth 100000 in
theorem b_X4_sumOf_4_g {p : Program} {l : Launch} {e : Env} {s : State} {m : MethodId} {args : Array Value} {below : List Frame} {meth : Method} {c : Code} {D : va_G} {T : Nat → ClassId} {b : Nat} (hC : CX p s m args meth c cX4_sumOf 5 RX4 (some .int) D T) (a0 : Nat) (x1 : Int32) (x2 : Int32) (x3 : Int32) (h0 : kd a0 = 6) (kx : Int32 → Int32 → Me → Option (Int32 × Me)) (hkx : ∀ (x2 : Int32) (x3 : Int32) (M : Me), GN p l e (k2_rm 0 0) s m args below meth c D T b 5 eI 66 [(2, .int x2)] [] M (kx x2 x3 M)) (kb : Int32 × Int32 × Me → Option (Int32 × Me)) (hkb : ∀ z : Int32 × Int32 × Me, GN p l e (k2_rm 0 0) s m args below meth c D T b 5 eI 4 [(0, .ref (b + a0)), (1, .int x1), (2, .int z.1), (3, .int z.2.1)] [] z.2.2 (kb z)) (M : Me) : GN p l e (k2_rm 0 0) s m args below meth c D T b 5 eI 4 [(0, .ref (b + a0)), (1, .int x1), (2, .int x2), (3, .int x3)] [] M (g_X4_sumOf_4 kx kb a0 x1 x2 x3 M) := by
  unfold g_X4_sumOf_4
  refine n_iload_n hC 3 rfl dX4_sumOf_4 ?_
  refine n_iload_n hC 1 rfl dX4_sumOf_5 ?_
  refine n_icmp_ge hC 66 dX4_sumOf_6 (by decide) ?_ ?_
  · exact GN.sub [2] rfl (hkx x2 x3 M)
  refine n_iload_n hC 3 rfl dX4_sumOf_9 ?_
  refine n_aload_n hC 0 rfl dX4_sumOf_10 ?_
  refine n_alen hC h0 (by decide) dX4_sumOf_11 ?_
  refine n_icmp_ge hC 66 dX4_sumOf_12 (by decide) ?_ ?_
  · exact GN.sub [2] rfl (hkx x2 x3 M)
  refine n_iload_n hC 2 rfl dX4_sumOf_15 ?_
  refine n_aload_n hC 0 rfl dX4_sumOf_16 ?_
  refine n_iload_n hC 3 rfl dX4_sumOf_17 ?_
  refine n_bald hC h0 dX4_sumOf_18 (fun g1 => ?_)
  refine n_sipush hC (255 : Int32) (by decide) dX4_sumOf_19 ?_
  refine n_iand hC dX4_sumOf_22 ?_
  refine n_ixor hC dX4_sumOf_23 ?_
  refine n_istB_n hC rfl (fun v2 => [(2, .int v2), (0, .ref (b + a0)), (1, .int x1), (3, .int x3)]) (by decide) (fun _ => rfl) dX4_sumOf_24 (fun v2 => ?_)
  refine n_iconst hC (0 : Int32) (by decide) dX4_sumOf_25 ?_
  refine n_istore hC [(4, .int (0 : Int32)), (2, .int v2), (0, .ref (b + a0)), (1, .int x1), (3, .int x3)] (by decide) rfl dX4_sumOf_26 ?_
  refine GN.sub [2, 3, 1, 4, 0] rfl (b_X4_sumOf_28 hC a0 x1 v2 x3 (0 : Int32) h0 _ (fun v4 v5 M6 => ?_) M)
  refine n_iincB hC (1 : Int32) (by decide) (fun v7 => [(3, .int v7), (0, .ref (b + a0)), (1, .int x1), (2, .int v4)]) 3 rfl (by decide) (fun _ => rfl) dX4_sumOf_60 (fun v7 => ?_)
  refine n_goto hC (tgt := 4) (by decide) dX4_sumOf_63 ?_
  exact GN.sub [1, 2, 3, 0] rfl (hkb (v4, v7, M6))
def l_X4_sumOf_4 (kx : Int32 → Int32 → Me → Option (Int32 × Me)) (a0 : Nat) (x1 : Int32) (x2 : Int32) (x3 : Int32) (M : Me) : Option (Int32 × Me) := lp (fun kb z => g_X4_sumOf_4 kx kb a0 x1 z.1 z.2.1 z.2.2) FU (x2, x3, M)
set_option maxHeartbeats 4000000 in
set_option maxRecDepth 100000 in
theorem b_X4_sumOf_4 {p : Program} {l : Launch} {e : Env} {s : State} {m : MethodId} {args : Array Value} {below : List Frame} {meth : Method} {c : Code} {D : va_G} {T : Nat → ClassId} {b : Nat} (hC : CX p s m args meth c cX4_sumOf 5 RX4 (some .int) D T) (a0 : Nat) (x1 : Int32) (x2 : Int32) (x3 : Int32) (h0 : kd a0 = 6) (kx : Int32 → Int32 → Me → Option (Int32 × Me)) (hkx : ∀ (x2 : Int32) (x3 : Int32) (M : Me), GN p l e (k2_rm 0 0) s m args below meth c D T b 5 eI 66 [(2, .int x2)] [] M (kx x2 x3 M)) (M : Me) : GN p l e (k2_rm 0 0) s m args below meth c D T b 5 eI 4 [(0, .ref (b + a0)), (1, .int x1), (2, .int x2), (3, .int x3)] [] M (l_X4_sumOf_4 kx a0 x1 x2 x3 M) := by
  exact n_loop (σ := Int32 × Int32 × Me) (fun z => [(0, .ref (b + a0)), (1, .int x1), (2, .int z.1), (3, .int z.2.1)]) (fun z => z.2.2) (fun kb hkb z => b_X4_sumOf_4_g hC a0 x1 z.1 z.2.1 h0 kx hkx kb hkb z.2.2) FU (x2, x3, M)
def f_X4_sumOf (M : Me) (a0 : Nat) (x1 : Int32) : Option (Int32 × Me) := l_X4_sumOf_4 (fun v8 v9 M10 => some ((v8 ^^^ (-1 : Int32)), M10)) a0 x1 (-1 : Int32) (0 : Int32) M
set_option maxHeartbeats 4000000 in
set_option maxRecDepth 100000 in
theorem c_X4_sumOf (l : Launch) (M : Me) (a0 : Nat) (x1 : Int32) (h0 : kd a0 = 6) : CN l yX4_sumOf cX4_sumOf 5 (some .int) (k2_rm 0 0) eI (fun b => [.ref (b + a0), .int x1]) M (f_X4_sumOf M a0 x1) := by
  refine CN.of RX4 (fun b => [(0, .ref (b + a0)), (1, .int x1)]) (by decide) rfl (fun b => Nat.le_of_ble_eq_true rfl) (fun b => rfl) ?_
  intro p e s m args below meth c D T b hC
  unfold f_X4_sumOf
  refine n_iconst hC (-1 : Int32) (by decide) dX4_sumOf_0 ?_
  refine n_istore_n hC rfl [(2, .int (-1 : Int32)), (0, .ref (b + a0)), (1, .int x1)] (by decide) rfl dX4_sumOf_1 ?_
  refine n_iconst hC (0 : Int32) (by decide) dX4_sumOf_2 ?_
  refine n_istore_n hC rfl [(3, .int (0 : Int32)), (2, .int (-1 : Int32)), (0, .ref (b + a0)), (1, .int x1)] (by decide) rfl dX4_sumOf_3 ?_
  refine GN.sub [2, 3, 1, 0] rfl (b_X4_sumOf_4 hC a0 x1 (-1 : Int32) (0 : Int32) h0 _ (fun v8 v9 M10 => ?_) M)
  refine n_iload_n hC 0 rfl dX4_sumOf_66 ?_
  refine n_iconst hC (-1 : Int32) (by decide) dX4_sumOf_67 ?_
  refine n_ixor hC dX4_sumOf_68 ?_
  exact n_iret hC dX4_sumOf_69
def g_X4_fitsName_16 (kx : Int32 → Me → Option (Int32 × Me)) (kb : Int32 × Me → Option (Int32 × Me)) (x0 : Int32) (y1 : Int64) (x3 : Int32) (x4 : Int32) (M : Me) : Option (Int32 × Me) := if x3 ≤ x4 then kx x4 M else cal (f_X4_octetOf M y1 x3 x4) (fun r1 M2 => if r1 = (0 : Int32) then chZ (0 : Int32) (some ((0 : Int32), M2)) else bndV (x4 + (1 : Int32)) (fun v3 => kb (v3, M2)))
set_option maxHeartbeats 4000000 in
set_option maxRecDepth 100000 in
theorem b_X4_fitsName_16_g {p : Program} {l : Launch} {e : Env} {s : State} {m : MethodId} {args : Array Value} {below : List Frame} {meth : Method} {c : Code} {D : va_G} {T : Nat → ClassId} {b : Nat} (hC : CX p s m args meth c cX4_fitsName 5 RX4 (some .boolean) D T) (x0 : Int32) (y1 : Int64) (x3 : Int32) (x4 : Int32) (kx : Int32 → Me → Option (Int32 × Me)) (hkx : ∀ (x4 : Int32) (M : Me), GN p l e (k2_rm 1 23) s m args below meth c D T b 5 eI 40 [(0, .int x0), (1, .long y1), (3, .int x3)] [] M (kx x4 M)) (kb : Int32 × Me → Option (Int32 × Me)) (hkb : ∀ z : Int32 × Me, GN p l e (k2_rm 1 23) s m args below meth c D T b 5 eI 16 [(0, .int x0), (1, .long y1), (3, .int x3), (4, .int z.1)] [] z.2 (kb z)) (M : Me) : GN p l e (k2_rm 1 23) s m args below meth c D T b 5 eI 16 [(0, .int x0), (1, .long y1), (3, .int x3), (4, .int x4)] [] M (g_X4_fitsName_16 kx kb x0 y1 x3 x4 M) := by
  unfold g_X4_fitsName_16
  refine n_iload hC 3 rfl dX4_fitsName_16 ?_
  refine n_iload_n hC 2 rfl dX4_fitsName_18 ?_
  refine n_icmp_ge hC 40 dX4_fitsName_19 (by decide) ?_ ?_
  · exact GN.sub [0, 1, 2] rfl (hkx x4 M)
  refine n_lload_n hC 1 rfl dX4_fitsName_22 ?_
  refine n_iload_n hC 2 rfl dX4_fitsName_23 ?_
  refine n_iload hC 3 rfl dX4_fitsName_24 ?_
  refine n_callSi (As := [.long y1, .int x3, .int x4]) (rest := []) hC (c_X4_octetOf l M y1 x3 x4) my_X4_octetOf ml_X4_244 rfl rfl rfl (Nat.le_of_ble_eq_true rfl) ⟨by decide, by decide⟩ dX4_fitsName_26 (fun r1 M2 => ?_)
  refine n_if_ne hC 34 dX4_fitsName_29 (by decide) ?_ ?_
  · refine n_iincB hC (1 : Int32) (by decide) (fun v3 => [(4, .int v3), (0, .int x0), (1, .long y1), (3, .int x3)]) 3 rfl (by decide) (fun _ => rfl) dX4_fitsName_34 (fun v3 => ?_)
    refine n_goto hC (tgt := 16) (by decide) dX4_fitsName_37 ?_
    exact GN.sub [1, 2, 3, 0] rfl (hkb (v3, M2))
  refine n_iconst hC (0 : Int32) (by decide) dX4_fitsName_32 ?_
  exact n_zret hC dX4_fitsName_33
def l_X4_fitsName_16 (kx : Int32 → Me → Option (Int32 × Me)) (x0 : Int32) (y1 : Int64) (x3 : Int32) (x4 : Int32) (M : Me) : Option (Int32 × Me) := lp (fun kb z => g_X4_fitsName_16 kx kb x0 y1 x3 z.1 z.2) FU (x4, M)
set_option maxHeartbeats 4000000 in
set_option maxRecDepth 100000 in
theorem b_X4_fitsName_16 {p : Program} {l : Launch} {e : Env} {s : State} {m : MethodId} {args : Array Value} {below : List Frame} {meth : Method} {c : Code} {D : va_G} {T : Nat → ClassId} {b : Nat} (hC : CX p s m args meth c cX4_fitsName 5 RX4 (some .boolean) D T) (x0 : Int32) (y1 : Int64) (x3 : Int32) (x4 : Int32) (kx : Int32 → Me → Option (Int32 × Me)) (hkx : ∀ (x4 : Int32) (M : Me), GN p l e (k2_rm 1 23) s m args below meth c D T b 5 eI 40 [(0, .int x0), (1, .long y1), (3, .int x3)] [] M (kx x4 M)) (M : Me) : GN p l e (k2_rm 1 23) s m args below meth c D T b 5 eI 16 [(0, .int x0), (1, .long y1), (3, .int x3), (4, .int x4)] [] M (l_X4_fitsName_16 kx x0 y1 x3 x4 M) := by
  exact n_loop (σ := Int32 × Me) (fun z => [(0, .int x0), (1, .long y1), (3, .int x3), (4, .int z.1)]) (fun z => z.2) (fun kb hkb z => b_X4_fitsName_16_g hC x0 y1 x3 z.1 kx hkx kb hkb z.2) FU (x4, M)
def f_X4_fitsName (M : Me) (x0 : Int32) (y1 : Int64) (x3 : Int32) : Option (Int32 × Me) := if x3 < (1 : Int32) then chZ (0 : Int32) (some ((0 : Int32), M)) else if x3 ≤ (8 : Int32) then l_X4_fitsName_16 (fun v4 M5 => if x0 = (2 : Int32) then chZ (1 : Int32) (some ((1 : Int32), M5)) else cal (f_X4_octetOf M5 y1 x3 (x3 - (1 : Int32))) (fun r6 M7 => if r6 = (47 : Int32) then chZ (0 : Int32) (some ((0 : Int32), M7)) else chZ (1 : Int32) (some ((1 : Int32), M7)))) x0 y1 x3 (0 : Int32) M else chZ (0 : Int32) (some ((0 : Int32), M))
set_option maxHeartbeats 4000000 in
set_option maxRecDepth 100000 in
theorem c_X4_fitsName (l : Launch) (M : Me) (x0 : Int32) (y1 : Int64) (x3 : Int32) : CN l yX4_fitsName cX4_fitsName 5 (some .boolean) (k2_rm 1 23) eI (fun b => [.int x0, .long y1, .int x3]) M (f_X4_fitsName M x0 y1 x3) := by
  refine CN.of RX4 (fun b => [(0, .int x0), (1, .long y1), (3, .int x3)]) (by decide) rfl (fun b => Nat.le_of_ble_eq_true rfl) (fun b => rfl) ?_
  intro p e s m args below meth c D T b hC
  unfold f_X4_fitsName
  refine n_iload_n hC 2 rfl dX4_fitsName_0 ?_
  refine n_iconst hC (1 : Int32) (by decide) dX4_fitsName_1 ?_
  refine n_icmp_lt hC 11 dX4_fitsName_2 (by decide) ?_ ?_
  · refine n_iconst hC (0 : Int32) (by decide) dX4_fitsName_11 ?_
    exact n_zret hC dX4_fitsName_12
  refine n_iload_n hC 2 rfl dX4_fitsName_5 ?_
  refine n_bipush hC (8 : Int32) (by decide) dX4_fitsName_6 ?_
  refine n_icmp_le hC 13 dX4_fitsName_8 (by decide) ?_ ?_
  · refine n_iconst hC (0 : Int32) (by decide) dX4_fitsName_13 ?_
    refine n_istore hC [(4, .int (0 : Int32)), (0, .int x0), (1, .long y1), (3, .int x3)] (by decide) rfl dX4_fitsName_14 ?_
    refine GN.sub [1, 2, 3, 0] rfl (b_X4_fitsName_16 hC x0 y1 x3 (0 : Int32) _ (fun v4 M5 => ?_) M)
    refine n_iload_n hC 0 rfl dX4_fitsName_40 ?_
    refine n_iconst hC (2 : Int32) (by decide) dX4_fitsName_41 ?_
    refine n_icmp_eq hC 58 dX4_fitsName_42 (by decide) ?_ ?_
    · refine n_iconst hC (1 : Int32) (by decide) dX4_fitsName_58 ?_
      refine n_goto hC (tgt := 63) (by decide) dX4_fitsName_59 ?_
      exact n_zret hC dX4_fitsName_63
    refine n_lload_n hC 1 rfl dX4_fitsName_45 ?_
    refine n_iload_n hC 2 rfl dX4_fitsName_46 ?_
    refine n_iload_n hC 2 rfl dX4_fitsName_47 ?_
    refine n_iconst hC (1 : Int32) (by decide) dX4_fitsName_48 ?_
    refine n_isub hC dX4_fitsName_49 ?_
    refine n_callSi (As := [.long y1, .int x3, .int (x3 - (1 : Int32))]) (rest := []) hC (c_X4_octetOf l M5 y1 x3 (x3 - (1 : Int32))) my_X4_octetOf ml_X4_244 rfl rfl rfl (Nat.le_of_ble_eq_true rfl) ⟨by decide, by decide⟩ dX4_fitsName_50 (fun r6 M7 => ?_)
    refine n_bipush hC (47 : Int32) (by decide) dX4_fitsName_53 ?_
    refine n_icmp_eq hC 62 dX4_fitsName_55 (by decide) ?_ ?_
    · refine n_iconst hC (0 : Int32) (by decide) dX4_fitsName_62 ?_
      exact n_zret hC dX4_fitsName_63
    refine n_iconst hC (1 : Int32) (by decide) dX4_fitsName_58 ?_
    refine n_goto hC (tgt := 63) (by decide) dX4_fitsName_59 ?_
    exact n_zret hC dX4_fitsName_63
  refine n_iconst hC (0 : Int32) (by decide) dX4_fitsName_11 ?_
  exact n_zret hC dX4_fitsName_12
