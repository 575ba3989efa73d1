def f_X5_in (M : Me) (y0 : Int64) (y2 : Int64) (y4 : Int64) : Option (Int32 × Me) := if (lg_cmp y0 y2) < (0 : Int32) then chZ (0 : Int32) (some ((0 : Int32), M)) else if (0 : Int32) < (lg_cmp y0 y4) then chZ (0 : Int32) (some ((0 : Int32), M)) else chZ (1 : Int32) (some ((1 : Int32), M))
set_option maxHeartbeats 4000000 in
set_option maxRecDepth 100000 in
theorem c_X5_in (l : Launch) (M : Me) (y0 : Int64) (y2 : Int64) (y4 : Int64) : CN l yX5_in cX5_in 6 (some .boolean) (k2_rm 0 0) eI (fun b => [.long y0, .long y2, .long y4]) M (f_X5_in M y0 y2 y4) := by
  refine CN.of RX5 (fun b => [(0, .long y0), (2, .long y2), (4, .long y4)]) (by decide) rfl (fun b => Nat.le_of_ble_eq_true rfl) (fun b => rfl) ?_
  intro p e s m args below meth c D T b hC
  unfold f_X5_in
  refine n_lload_n hC 0 rfl dX5_in_0 ?_
  refine n_lload_n hC 1 rfl dX5_in_1 ?_
  refine n_lcmp hC dX5_in_2 ?_
  refine n_if_lt hC 17 dX5_in_3 (by decide) ?_ ?_
  · refine n_iconst hC (0 : Int32) (by decide) dX5_in_17 ?_
    exact n_zret hC dX5_in_18
  refine n_lload_n hC 0 rfl dX5_in_6 ?_
  refine n_lload hC 2 rfl dX5_in_7 ?_
  refine n_lcmp hC dX5_in_9 ?_
  refine n_if_gt hC 17 dX5_in_10 (by decide) ?_ ?_
  · refine n_iconst hC (0 : Int32) (by decide) dX5_in_17 ?_
    exact n_zret hC dX5_in_18
  refine n_iconst hC (1 : Int32) (by decide) dX5_in_13 ?_
  refine n_goto hC (tgt := 18) (by decide) dX5_in_14 ?_
  exact n_zret hC dX5_in_18
def f_X5_fails (M : Me) (a0 : Nat) (x1 : Int32) : Option (Int32 × Me) := bnd (sI M a0 1 x1) (fun M1 => some (((-30 : Int32) - x1), M1))
set_option maxHeartbeats 4000000 in
set_option maxRecDepth 100000 in
theorem c_X5_fails (l : Launch) (M : Me) (a0 : Nat) (x1 : Int32) (h0 : kd a0 = 5) : CN l yX5_fails cX5_fails 2 (some .int) (k2_rm 0 0) eI (fun b => [.ref (b + a0), .int x1]) M (f_X5_fails M a0 x1) := by
  refine CN.of RX5 (fun b => [(0, .ref (b + a0)), (1, .int x1)]) (by decide) rfl (fun b => Nat.le_of_ble_eq_true rfl) (fun b => rfl) ?_
  intro p e s m args below meth c D T b hC
  unfold f_X5_fails
  refine n_aload_n hC 0 rfl dX5_fails_0 ?_
  refine n_iload_n hC 1 rfl dX5_fails_1 ?_
  refine n_putI hC clX5 h0 1 (by decide) rfl rfl rfl fl_X5_7 dX5_fails_2 (fun M1 => ?_)
  refine n_bipush hC (-30 : Int32) (by decide) dX5_fails_5 ?_
  refine n_iload_n hC 1 rfl dX5_fails_7 ?_
  refine n_isub hC dX5_fails_8 ?_
  exact n_iret hC dX5_fails_9
def f_X5_isEntry (M : Me) (a0 : Nat) (x1 : Int32) : Option (Int32 × Me) := cal (f_X5_in M x1.toInt64 (0 : Int64) ((((M.1 a0 2) - (1 : Int32))).toInt64)) (fun r1 M2 => chZ r1 (some (r1, M2)))
set_option maxHeartbeats 4000000 in
set_option maxRecDepth 100000 in
theorem c_X5_isEntry (l : Launch) (M : Me) (a0 : Nat) (x1 : Int32) (h0 : kd a0 = 5) : CN l yX5_isEntry cX5_isEntry 2 (some .boolean) (k2_rm 1 25) eI (fun b => [.ref (b + a0), .int x1]) M (f_X5_isEntry M a0 x1) := by
  refine CN.of RX5 (fun b => [(0, .ref (b + a0)), (1, .int x1)]) (by decide) rfl (fun b => Nat.le_of_ble_eq_true rfl) (fun b => rfl) ?_
  intro p e s m args below meth c D T b hC
  unfold f_X5_isEntry
  refine n_iload_n hC 1 rfl dX5_isEntry_0 ?_
  refine n_i2l hC dX5_isEntry_1 ?_
  refine n_lconst hC (0 : Int64) (by decide) dX5_isEntry_2 ?_
  refine n_aload_n hC 0 rfl dX5_isEntry_3 ?_
  refine n_get hC clX5 h0 2 (.int (M.1 a0 2)) (by decide) rfl fl_X5_10 rfl dX5_isEntry_4 ?_
  refine n_iconst hC (1 : Int32) (by decide) dX5_isEntry_7 ?_
  refine n_isub hC dX5_isEntry_8 ?_
  refine n_i2l hC dX5_isEntry_9 ?_
  refine n_callSi (As := [.long x1.toInt64, .long (0 : Int64), .long (((M.1 a0 2) - (1 : Int32))).toInt64]) (rest := []) hC (c_X5_in l M x1.toInt64 (0 : Int64) ((((M.1 a0 2) - (1 : Int32))).toInt64)) my_X5_in ml_X5_13 rfl rfl rfl (Nat.le_of_ble_eq_true rfl) ⟨by decide, by decide⟩ dX5_isEntry_10 (fun r1 M2 => ?_)
  exact n_zret hC dX5_isEntry_13
def f_X5_byteOf (M : Me) (y0 : Int64) (x2 : Int32) (x3 : Int32) : Option (Int32 × Me) := some (((lShr y0 ((8 : Int32) * ((x2 - (1 : Int32)) - x3))) &&& (255 : Int64)).toInt32, M)
set_option maxHeartbeats 4000000 in
set_option maxRecDepth 100000 in
theorem c_X5_byteOf (l : Launch) (M : Me) (y0 : Int64) (x2 : Int32) (x3 : Int32) : CN l yX5_byteOf cX5_byteOf 4 (some .int) (k2_rm 0 0) eI (fun b => [.long y0, .int x2, .int x3]) M (f_X5_byteOf M y0 x2 x3) := by
  refine CN.of RX5 (fun b => [(0, .long y0), (2, .int x2), (3, .int x3)]) (by decide) rfl (fun b => Nat.le_of_ble_eq_true rfl) (fun b => rfl) ?_
  intro p e s m args below meth c D T b hC
  unfold f_X5_byteOf
  refine n_lload_n hC 0 rfl dX5_byteOf_0 ?_
  refine n_bipush hC (8 : Int32) (by decide) dX5_byteOf_1 ?_
  refine n_iload_n hC 1 rfl dX5_byteOf_3 ?_
  refine n_iconst hC (1 : Int32) (by decide) dX5_byteOf_4 ?_
  refine n_isub hC dX5_byteOf_5 ?_
  refine n_iload_n hC 2 rfl dX5_byteOf_6 ?_
  refine n_isub hC dX5_byteOf_7 ?_
  refine n_imul hC dX5_byteOf_8 ?_
  refine n_lshr hC dX5_byteOf_9 ?_
  refine n_ldc2 hC (255 : Int64) kc_X5_17 dX5_byteOf_10 ?_
  refine n_land hC dX5_byteOf_13 ?_
  refine n_l2i hC dX5_byteOf_14 ?_
  exact n_iret hC dX5_byteOf_15
def g_X5_hasZero_2 (kx : Int32 → Me → Option (Int32 × Me)) (kb : Int32 × Me → Option (Int32 × Me)) (y0 : Int64) (x2 : Int32) (x3 : Int32) (M : Me) : Option (Int32 × Me) := if x2 ≤ x3 then kx x3 M else cal (f_X5_byteOf M y0 x2 x3) (fun r1 M2 => if r1 = (0 : Int32) then chZ (1 : Int32) (some ((1 : Int32), M2)) else bndV (x3 + (1 : Int32)) (fun v3 => kb (v3, M2)))
set_option maxHeartbeats 4000000 in
set_option maxRecDepth 100000 in
theorem b_X5_hasZero_2_g {p : Program} {l : Launch} {e : Env} {s : State} {m : MethodId} {args : Array Value} {below : List Frame} {meth : Method} {c : Code} {D : va_G} {T : Nat → ClassId} {b : Nat} (hC : CX p s m args meth c cX5_hasZero 4 RX5 (some .boolean) D T) (y0 : Int64) (x2 : Int32) (x3 : Int32) (kx : Int32 → Me → Option (Int32 × Me)) (hkx : ∀ (x3 : Int32) (M : Me), GN p l e (k2_rm 1 23) s m args below meth c D T b 4 eI 24 [] [] M (kx x3 M)) (kb : Int32 × Me → Option (Int32 × Me)) (hkb : ∀ z : Int32 × Me, GN p l e (k2_rm 1 23) s m args below meth c D T b 4 eI 2 [(0, .long y0), (2, .int x2), (3, .int z.1)] [] z.2 (kb z)) (M : Me) : GN p l e (k2_rm 1 23) s m args below meth c D T b 4 eI 2 [(0, .long y0), (2, .int x2), (3, .int x3)] [] M (g_X5_hasZero_2 kx kb y0 x2 x3 M) := by
  unfold g_X5_hasZero_2
  refine n_iload_n hC 2 rfl dX5_hasZero_2 ?_
  refine n_iload_n hC 1 rfl dX5_hasZero_3 ?_
  refine n_icmp_ge hC 24 dX5_hasZero_4 (by decide) ?_ ?_
  · exact GN.sub [] rfl (hkx x3 M)
  refine n_lload_n hC 0 rfl dX5_hasZero_7 ?_
  refine n_iload_n hC 1 rfl dX5_hasZero_8 ?_
  refine n_iload_n hC 2 rfl dX5_hasZero_9 ?_
  refine n_callSi (As := [.long y0, .int x2, .int x3]) (rest := []) hC (c_X5_byteOf l M y0 x2 x3) my_X5_byteOf ml_X5_19 rfl rfl rfl (Nat.le_of_ble_eq_true rfl) ⟨by decide, by decide⟩ dX5_hasZero_10 (fun r1 M2 => ?_)
  refine n_if_ne hC 18 dX5_hasZero_13 (by decide) ?_ ?_
  · refine n_iincB hC (1 : Int32) (by decide) (fun v3 => [(3, .int v3), (0, .long y0), (2, .int x2)]) 2 rfl (by decide) (fun _ => rfl) dX5_hasZero_18 (fun v3 => ?_)
    refine n_goto hC (tgt := 2) (by decide) dX5_hasZero_21 ?_
    exact GN.sub [1, 2, 0] rfl (hkb (v3, M2))
  refine n_iconst hC (1 : Int32) (by decide) dX5_hasZero_16 ?_
  exact n_zret hC dX5_hasZero_17
def l_X5_hasZero_2 (kx : Int32 → Me → Option (Int32 × Me)) (y0 : Int64) (x2 : Int32) (x3 : Int32) (M : Me) : Option (Int32 × Me) := lp (fun kb z => g_X5_hasZero_2 kx kb y0 x2 z.1 z.2) FU (x3, M)
set_option maxHeartbeats 4000000 in
set_option maxRecDepth 100000 in
theorem b_X5_hasZero_2 {p : Program} {l : Launch} {e : Env} {s : State} {m : MethodId} {args : Array Value} {below : List Frame} {meth : Method} {c : Code} {D : va_G} {T : Nat → ClassId} {b : Nat} (hC : CX p s m args meth c cX5_hasZero 4 RX5 (some .boolean) D T) (y0 : Int64) (x2 : Int32) (x3 : Int32) (kx : Int32 → Me → Option (Int32 × Me)) (hkx : ∀ (x3 : Int32) (M : Me), GN p l e (k2_rm 1 23) s m args below meth c D T b 4 eI 24 [] [] M (kx x3 M)) (M : Me) : GN p l e (k2_rm 1 23) s m args below meth c D T b 4 eI 2 [(0, .long y0), (2, .int x2), (3, .int x3)] [] M (l_X5_hasZero_2 kx y0 x2 x3 M) := by
  exact n_loop (σ := Int32 × Me) (fun z => [(0, .long y0), (2, .int x2), (3, .int z.1)]) (fun z => z.2) (fun kb hkb z => b_X5_hasZero_2_g hC y0 x2 z.1 kx hkx kb hkb z.2) FU (x3, M)
def f_X5_hasZero (M : Me) (y0 : Int64) (x2 : Int32) : Option (Int32 × Me) := l_X5_hasZero_2 (fun v4 M5 => chZ (0 : Int32) (some ((0 : Int32), M5))) y0 x2 (0 : Int32) M
set_option maxHeartbeats 4000000 in
set_option maxRecDepth 100000 in
theorem c_X5_hasZero (l : Launch) (M : Me) (y0 : Int64) (x2 : Int32) : CN l yX5_hasZero cX5_hasZero 4 (some .boolean) (k2_rm 1 23) eI (fun b => [.long y0, .int x2]) M (f_X5_hasZero M y0 x2) := by
  refine CN.of RX5 (fun b => [(0, .long y0), (2, .int x2)]) (by decide) rfl (fun b => Nat.le_of_ble_eq_true rfl) (fun b => rfl) ?_
  intro p e s m args below meth c D T b hC
  unfold f_X5_hasZero
  refine n_iconst hC (0 : Int32) (by decide) dX5_hasZero_0 ?_
  refine n_istore_n hC rfl [(3, .int (0 : Int32)), (0, .long y0), (2, .int x2)] (by decide) rfl dX5_hasZero_1 ?_
  refine GN.sub [1, 2, 0] rfl (b_X5_hasZero_2 hC y0 x2 (0 : Int32) _ (fun v4 M5 => ?_) M)
  refine n_iconst hC (0 : Int32) (by decide) dX5_hasZero_24 ?_
  exact n_zret hC dX5_hasZero_25
def f_X5_begin (M : Me) (a0 : Nat) (x1 : Int32) : Option (Unit × Me) := chk x1 (ln (rf a0 6)) (bnd (sI M (rf a0 6) x1.toNatClampNeg (0 : Int32)) (fun M1 => chk x1 (ln (rf a0 7)) (bnd (sI M1 (rf a0 7) x1.toNatClampNeg (0 : Int32)) (fun M2 => chk x1 (ln (rf a0 8)) (bnd (sI M2 (rf a0 8) x1.toNatClampNeg (0 : Int32)) (fun M3 => chk x1 (ln (rf a0 9)) (bnd (sI M3 (rf a0 9) x1.toNatClampNeg (0 : Int32)) (fun M4 => chk x1 (ln (rf a0 10)) (bnd (sI M4 (rf a0 10) x1.toNatClampNeg (0 : Int32)) (fun M5 => chk x1 (ln (rf a0 14)) (bnd (sI M5 (rf a0 14) x1.toNatClampNeg (vp_nar .boolean (0 : Int32))) (fun M6 => chk x1 (ln (rf a0 15)) (bnd (sI M6 (rf a0 15) x1.toNatClampNeg (0 : Int32)) (fun M7 => chk x1 (ln (rf a0 17)) (bnd (sI M7 (rf a0 17) x1.toNatClampNeg (0 : Int32)) (fun M8 => chk x1 (ln (rf a0 18)) (bnd (sI M8 (rf a0 18) x1.toNatClampNeg (0 : Int32)) (fun M9 => chk x1 (ln (rf a0 19)) (bnd (sI M9 (rf a0 19) x1.toNatClampNeg (vp_nar .boolean (0 : Int32))) (fun M10 => chk x1 (ln (rf a0 20)) (bnd (sI M10 (rf a0 20) x1.toNatClampNeg (-1 : Int32)) (fun M11 => some ((), M11)))))))))))))))))))))))
set_option maxHeartbeats 4000000 in
set_option maxRecDepth 100000 in
theorem c_X5_begin (l : Launch) (M : Me) (a0 : Nat) (x1 : Int32) (h0 : kd a0 = 5) : CN l yX5_begin cX5_begin 2 none (k2_rm 0 0) eV (fun b => [.ref (b + a0), .int x1]) M (f_X5_begin M a0 x1) := by
  refine CN.of RX5 (fun b => [(0, .ref (b + a0)), (1, .int x1)]) (by decide) rfl (fun b => Nat.le_of_ble_eq_true rfl) (fun b => rfl) ?_
  intro p e s m args below meth c D T b hC
  unfold f_X5_begin
  refine n_aload_n hC 0 rfl dX5_begin_0 ?_
  refine n_get hC clX5 h0 6 (.ref (b + (rf a0 6))) (by decide) rfl fl_X5_23 rfl dX5_begin_1 ?_
  refine n_iload_n hC 1 rfl dX5_begin_4 ?_
  refine n_iconst hC (0 : Int32) (by decide) dX5_begin_5 ?_
  refine n_iast hC (kf_X5_6 h0) dX5_begin_6 (fun M1 => ?_)
  refine n_aload_n hC 0 rfl dX5_begin_7 ?_
  refine n_get hC clX5 h0 7 (.ref (b + (rf a0 7))) (by decide) rfl fl_X5_27 rfl dX5_begin_8 ?_
  refine n_iload_n hC 1 rfl dX5_begin_11 ?_
  refine n_iconst hC (0 : Int32) (by decide) dX5_begin_12 ?_
  refine n_iast hC (kf_X5_7 h0) dX5_begin_13 (fun M2 => ?_)
  refine n_aload_n hC 0 rfl dX5_begin_14 ?_
  refine n_get hC clX5 h0 8 (.ref (b + (rf a0 8))) (by decide) rfl fl_X5_30 rfl dX5_begin_15 ?_
  refine n_iload_n hC 1 rfl dX5_begin_18 ?_
  refine n_iconst hC (0 : Int32) (by decide) dX5_begin_19 ?_
  refine n_iast hC (kf_X5_8 h0) dX5_begin_20 (fun M3 => ?_)
  refine n_aload_n hC 0 rfl dX5_begin_21 ?_
  refine n_get hC clX5 h0 9 (.ref (b + (rf a0 9))) (by decide) rfl fl_X5_33 rfl dX5_begin_22 ?_
  refine n_iload_n hC 1 rfl dX5_begin_25 ?_
  refine n_iconst hC (0 : Int32) (by decide) dX5_begin_26 ?_
  refine n_iast hC (kf_X5_9 h0) dX5_begin_27 (fun M4 => ?_)
  refine n_aload_n hC 0 rfl dX5_begin_28 ?_
  refine n_get hC clX5 h0 10 (.ref (b + (rf a0 10))) (by decide) rfl fl_X5_36 rfl dX5_begin_29 ?_
  refine n_iload_n hC 1 rfl dX5_begin_32 ?_
  refine n_iconst hC (0 : Int32) (by decide) dX5_begin_33 ?_
  refine n_iast hC (kf_X5_10 h0) dX5_begin_34 (fun M5 => ?_)
  refine n_aload_n hC 0 rfl dX5_begin_35 ?_
  refine n_get hC clX5 h0 14 (.ref (b + (rf a0 14))) (by decide) rfl fl_X5_39 rfl dX5_begin_36 ?_
  refine n_iload_n hC 1 rfl dX5_begin_39 ?_
  refine n_iconst hC (0 : Int32) (by decide) dX5_begin_40 ?_
  refine n_zast hC (kf_X5_14 h0) dX5_begin_41 (fun M6 => ?_)
  refine n_aload_n hC 0 rfl dX5_begin_42 ?_
  refine n_get hC clX5 h0 15 (.ref (b + (rf a0 15))) (by decide) rfl fl_X5_43 rfl dX5_begin_43 ?_
  refine n_iload_n hC 1 rfl dX5_begin_46 ?_
  refine n_iconst hC (0 : Int32) (by decide) dX5_begin_47 ?_
  refine n_iast hC (kf_X5_15 h0) dX5_begin_48 (fun M7 => ?_)
  refine n_aload_n hC 0 rfl dX5_begin_49 ?_
  refine n_get hC clX5 h0 17 (.ref (b + (rf a0 17))) (by decide) rfl fl_X5_46 rfl dX5_begin_50 ?_
  refine n_iload_n hC 1 rfl dX5_begin_53 ?_
  refine n_iconst hC (0 : Int32) (by decide) dX5_begin_54 ?_
  refine n_iast hC (kf_X5_17 h0) dX5_begin_55 (fun M8 => ?_)
  refine n_aload_n hC 0 rfl dX5_begin_56 ?_
  refine n_get hC clX5 h0 18 (.ref (b + (rf a0 18))) (by decide) rfl fl_X5_49 rfl dX5_begin_57 ?_
  refine n_iload_n hC 1 rfl dX5_begin_60 ?_
  refine n_iconst hC (0 : Int32) (by decide) dX5_begin_61 ?_
  refine n_iast hC (kf_X5_18 h0) dX5_begin_62 (fun M9 => ?_)
  refine n_aload_n hC 0 rfl dX5_begin_63 ?_
  refine n_get hC clX5 h0 19 (.ref (b + (rf a0 19))) (by decide) rfl fl_X5_52 rfl dX5_begin_64 ?_
  refine n_iload_n hC 1 rfl dX5_begin_67 ?_
  refine n_iconst hC (0 : Int32) (by decide) dX5_begin_68 ?_
  refine n_zast hC (kf_X5_19 h0) dX5_begin_69 (fun M10 => ?_)
  refine n_aload_n hC 0 rfl dX5_begin_70 ?_
  refine n_get hC clX5 h0 20 (.ref (b + (rf a0 20))) (by decide) rfl fl_X5_55 rfl dX5_begin_71 ?_
  refine n_iload_n hC 1 rfl dX5_begin_74 ?_
  refine n_iconst hC (-1 : Int32) (by decide) dX5_begin_75 ?_
  refine n_iast hC (kf_X5_20 h0) dX5_begin_76 (fun M11 => ?_)
  exact n_vret hC dX5_begin_77
def g_X5_entry_133 (kx : Int32 → Me → Option (Int32 × Me)) (kb : Int32 × Me → Option (Int32 × Me)) (a0 : Nat) (x1 : Int32) (y3 : Int64) (x5 : Int32) (x6 : Int32) (x7 : Int32) (M : Me) : Option (Int32 × Me) := if x5 ≤ x7 then kx x7 M else cal (f_X5_byteOf M y3 x5 x7) (fun r16 M17 => chk (((16 : Int32) * x6) + x7) (ln (rf a0 5)) (bnd (sI M17 (rf a0 5) (((16 : Int32) * x6) + x7).toNatClampNeg r16) (fun M18 => bndV (x7 + (1 : Int32)) (fun v19 => kb (v19, M18)))))
set_option maxHeartbeats 4000000 in
set_option maxRecDepth 100000 in
theorem b_X5_entry_133_g {p : Program} {l : Launch} {e : Env} {s : State} {m : MethodId} {args : Array Value} {below : List Frame} {meth : Method} {c : Code} {D : va_G} {T : Nat → ClassId} {b : Nat} (hC : CX p s m args meth c cX5_entry 8 RX5 (some .int) D T) (a0 : Nat) (x1 : Int32) (y3 : Int64) (x5 : Int32) (x6 : Int32) (x7 : Int32) (h0 : kd a0 = 5) (kx : Int32 → Me → Option (Int32 × Me)) (hkx : ∀ (x7 : Int32) (M : Me), GN p l e (k2_rm 2 46) s m args below meth c D T b 8 eI 167 [(0, .ref (b + a0)), (1, .int x1), (5, .int x5), (6, .int x6)] [] M (kx x7 M)) (kb : Int32 × Me → Option (Int32 × Me)) (hkb : ∀ z : Int32 × Me, GN p l e (k2_rm 2 46) s m args below meth c D T b 8 eI 133 [(0, .ref (b + a0)), (1, .int x1), (3, .long y3), (5, .int x5), (6, .int x6), (7, .int z.1)] [] z.2 (kb z)) (M : Me) : GN p l e (k2_rm 2 46) s m args below meth c D T b 8 eI 133 [(0, .ref (b + a0)), (1, .int x1), (3, .long y3), (5, .int x5), (6, .int x6), (7, .int x7)] [] M (g_X5_entry_133 kx kb a0 x1 y3 x5 x6 x7 M) := by
  unfold g_X5_entry_133
  refine n_iload hC 5 rfl dX5_entry_133 ?_
  refine n_iload hC 3 rfl dX5_entry_135 ?_
  refine n_icmp_ge hC 167 dX5_entry_137 (by decide) ?_ ?_
  · exact GN.sub [0, 1, 3, 4] rfl (hkx x7 M)
  refine n_aload_n hC 0 rfl dX5_entry_140 ?_
  refine n_get hC clX5 h0 5 (.ref (b + (rf a0 5))) (by decide) rfl fl_X5_78 rfl dX5_entry_141 ?_
  refine n_bipush hC (16 : Int32) (by decide) dX5_entry_144 ?_
  refine n_iload hC 4 rfl dX5_entry_146 ?_
  refine n_imul hC dX5_entry_148 ?_
  refine n_iload hC 5 rfl dX5_entry_149 ?_
  refine n_iadd hC dX5_entry_151 ?_
  refine n_lload_n hC 2 rfl dX5_entry_152 ?_
  refine n_iload hC 3 rfl dX5_entry_153 ?_
  refine n_iload hC 5 rfl dX5_entry_155 ?_
  refine n_callSi (As := [.long y3, .int x5, .int x7]) (rest := [.int (((16 : Int32) * x6) + x7), .ref (b + (rf a0 5))]) hC (c_X5_byteOf l M y3 x5 x7) my_X5_byteOf ml_X5_19 rfl rfl rfl (Nat.le_of_ble_eq_true rfl) ⟨by decide, by decide⟩ dX5_entry_157 (fun r16 M17 => ?_)
  refine n_iast hC (kf_X5_5 h0) dX5_entry_160 (fun M18 => ?_)
  refine n_iincB hC (1 : Int32) (by decide) (fun v19 => [(7, .int v19), (0, .ref (b + a0)), (1, .int x1), (3, .long y3), (5, .int x5), (6, .int x6)]) 5 rfl (by decide) (fun _ => rfl) dX5_entry_161 (fun v19 => ?_)
  refine n_goto hC (tgt := 133) (by decide) dX5_entry_164 ?_
  exact GN.sub [1, 2, 3, 4, 5, 0] rfl (hkb (v19, M18))
def l_X5_entry_133 (kx : Int32 → Me → Option (Int32 × Me)) (a0 : Nat) (x1 : Int32) (y3 : Int64) (x5 : Int32) (x6 : Int32) (x7 : Int32) (M : Me) : Option (Int32 × Me) := lp (fun kb z => g_X5_entry_133 kx kb a0 x1 y3 x5 x6 z.1 z.2) FU (x7, M)
set_option maxHeartbeats 4000000 in
set_option maxRecDepth 100000 in
theorem b_X5_entry_133 {p : Program} {l : Launch} {e : Env} {s : State} {m : MethodId} {args : Array Value} {below : List Frame} {meth : Method} {c : Code} {D : va_G} {T : Nat → ClassId} {b : Nat} (hC : CX p s m args meth c cX5_entry 8 RX5 (some .int) D T) (a0 : Nat) (x1 : Int32) (y3 : Int64) (x5 : Int32) (x6 : Int32) (x7 : Int32) (h0 : kd a0 = 5) (kx : Int32 → Me → Option (Int32 × Me)) (hkx : ∀ (x7 : Int32) (M : Me), GN p l e (k2_rm 2 46) s m args below meth c D T b 8 eI 167 [(0, .ref (b + a0)), (1, .int x1), (5, .int x5), (6, .int x6)] [] M (kx x7 M)) (M : Me) : GN p l e (k2_rm 2 46) s m args below meth c D T b 8 eI 133 [(0, .ref (b + a0)), (1, .int x1), (3, .long y3), (5, .int x5), (6, .int x6), (7, .int x7)] [] M (l_X5_entry_133 kx a0 x1 y3 x5 x6 x7 M) := by
  exact n_loop (σ := Int32 × Me) (fun z => [(0, .ref (b + a0)), (1, .int x1), (3, .long y3), (5, .int x5), (6, .int x6), (7, .int z.1)]) (fun z => z.2) (fun kb hkb z => b_X5_entry_133_g hC a0 x1 y3 x5 x6 z.1 h0 kx hkx kb hkb z.2) FU (x7, M)
def j_X5_entry_80 (a0 : Nat) (x1 : Int32) (x2 : Int32) (y3 : Int64) (x5 : Int32) (M : Me) : Option (Int32 × Me) := if (M.1 a0 2) = (12 : Int32) then some ((-5 : Int32), M) else bndV (M.1 a0 2) (fun v10 => bnd (sI M a0 2 ((M.1 a0 2) + (1 : Int32))) (fun M11 => cal (f_X5_begin M11 a0 v10) (fun _ M13 => chk v10 (ln (rf a0 3)) (bnd (sI M13 (rf a0 3) v10.toNatClampNeg x1) (fun M14 => chk v10 (ln (rf a0 4)) (bnd (sI M14 (rf a0 4) v10.toNatClampNeg x2) (fun M15 => l_X5_entry_133 (fun v20 M21 => chk v10 (ln (rf a0 6)) (bnd (sI M21 (rf a0 6) v10.toNatClampNeg x5) (fun M22 => if x1 = (2 : Int32) then chk (((16 : Int32) * v10) + x5) (ln (rf a0 5)) (bnd (sI M22 (rf a0 5) (((16 : Int32) * v10) + x5).toNatClampNeg (47 : Int32)) (fun M23 => chk v10 (ln (rf a0 6)) (chk v10 (ln (rf a0 6)) (bnd (sI M23 (rf a0 6) v10.toNatClampNeg ((M23.1 (rf a0 6) v10.toNatClampNeg) + (1 : Int32))) (fun M25 => some (v10, M25)))))) else some (v10, M22)))) a0 x1 y3 x5 v10 (0 : Int32) M15)))))))
set_option maxHeartbeats 4000000 in
set_option maxRecDepth 100000 in
theorem b_X5_entry_80 {p : Program} {l : Launch} {e : Env} {s : State} {m : MethodId} {args : Array Value} {below : List Frame} {meth : Method} {c : Code} {D : va_G} {T : Nat → ClassId} {b : Nat} (hC : CX p s m args meth c cX5_entry 8 RX5 (some .int) D T) (a0 : Nat) (x1 : Int32) (x2 : Int32) (y3 : Int64) (x5 : Int32) (h0 : kd a0 = 5) (M : Me) : GN p l e (k2_rm 2 46) s m args below meth c D T b 8 eI 80 [(0, .ref (b + a0)), (1, .int x1), (2, .int x2), (3, .long y3), (5, .int x5)] [] M (j_X5_entry_80 a0 x1 x2 y3 x5 M) := by
  unfold j_X5_entry_80
  refine n_aload_n hC 0 rfl dX5_entry_80 ?_
  refine n_get hC clX5 h0 2 (.int (M.1 a0 2)) (by decide) rfl fl_X5_10 rfl dX5_entry_81 ?_
  refine n_bipush hC (12 : Int32) (by decide) dX5_entry_84 ?_
  refine n_icmp_ne hC 92 dX5_entry_86 (by decide) ?_ ?_
  · refine n_aload_n hC 0 rfl dX5_entry_92 ?_
    refine n_get hC clX5 h0 2 (.int (M.1 a0 2)) (by decide) rfl fl_X5_10 rfl dX5_entry_93 ?_
    refine n_istB hC (fun v10 => [(6, .int v10), (0, .ref (b + a0)), (1, .int x1), (2, .int x2), (3, .long y3), (5, .int x5)]) (by decide) (fun _ => rfl) dX5_entry_96 (fun v10 => ?_)
    refine n_aload_n hC 1 rfl dX5_entry_98 ?_
    refine n_dup hC rfl dX5_entry_99 ?_
    refine n_get hC clX5 h0 2 (.int (M.1 a0 2)) (by decide) rfl fl_X5_10 rfl dX5_entry_100 ?_
    refine n_iconst hC (1 : Int32) (by decide) dX5_entry_103 ?_
    refine n_iadd hC dX5_entry_104 ?_
    refine n_putI hC clX5 h0 2 (by decide) rfl rfl rfl fl_X5_10 dX5_entry_105 (fun M11 => ?_)
    refine n_aload_n hC 1 rfl dX5_entry_108 ?_
    refine n_iload hC 0 rfl dX5_entry_109 ?_
    refine n_callVv (As := [.int v10]) (rest := []) h0 rfl (by decide) hC (c_X5_begin l M11 a0 v10 h0) my_X5_begin ml_X5_68 rfl rfl rfl (Nat.le_of_ble_eq_true rfl) ⟨by decide, by decide⟩ dX5_entry_111 (fun r12 M13 => ?_)
    refine n_aload_n hC 1 rfl dX5_entry_114 ?_
    refine n_get hC clX5 h0 3 (.ref (b + (rf a0 3))) (by decide) rfl fl_X5_72 rfl dX5_entry_115 ?_
    refine n_iload hC 0 rfl dX5_entry_118 ?_
    refine n_iload_n hC 2 rfl dX5_entry_120 ?_
    refine n_iast hC (kf_X5_3 h0) dX5_entry_121 (fun M14 => ?_)
    refine n_aload_n hC 1 rfl dX5_entry_122 ?_
    refine n_get hC clX5 h0 4 (.ref (b + (rf a0 4))) (by decide) rfl fl_X5_75 rfl dX5_entry_123 ?_
    refine n_iload hC 0 rfl dX5_entry_126 ?_
    refine n_iload_n hC 3 rfl dX5_entry_128 ?_
    refine n_iast hC (kf_X5_4 h0) dX5_entry_129 (fun M15 => ?_)
    refine n_iconst hC (0 : Int32) (by decide) dX5_entry_130 ?_
    refine n_istore hC [(7, .int (0 : Int32)), (6, .int v10), (0, .ref (b + a0)), (1, .int x1), (2, .int x2), (3, .long y3), (5, .int x5)] (by decide) rfl dX5_entry_131 ?_
    refine GN.sub [2, 3, 5, 6, 1, 0] rfl (b_X5_entry_133 hC a0 x1 y3 x5 v10 (0 : Int32) h0 _ (fun v20 M21 => ?_) M15)
    refine n_aload_n hC 0 rfl dX5_entry_167 ?_
    refine n_get hC clX5 h0 6 (.ref (b + (rf a0 6))) (by decide) rfl fl_X5_23 rfl dX5_entry_168 ?_
    refine n_iload hC 3 rfl dX5_entry_171 ?_
    refine n_iload hC 2 rfl dX5_entry_173 ?_
    refine n_iast hC (kf_X5_6 h0) dX5_entry_175 (fun M22 => ?_)
    refine n_iload_n hC 1 rfl dX5_entry_176 ?_
    refine n_iconst hC (2 : Int32) (by decide) dX5_entry_177 ?_
    refine n_icmp_ne hC 207 dX5_entry_178 (by decide) ?_ ?_
    · refine n_iload hC 3 rfl dX5_entry_207 ?_
      exact n_iret hC dX5_entry_209
    refine n_aload_n hC 0 rfl dX5_entry_181 ?_
    refine n_get hC clX5 h0 5 (.ref (b + (rf a0 5))) (by decide) rfl fl_X5_78 rfl dX5_entry_182 ?_
    refine n_bipush hC (16 : Int32) (by decide) dX5_entry_185 ?_
    refine n_iload hC 3 rfl dX5_entry_187 ?_
    refine n_imul hC dX5_entry_189 ?_
    refine n_iload hC 2 rfl dX5_entry_190 ?_
    refine n_iadd hC dX5_entry_192 ?_
    refine n_bipush hC (47 : Int32) (by decide) dX5_entry_193 ?_
    refine n_iast hC (kf_X5_5 h0) dX5_entry_195 (fun M23 => ?_)
    refine n_aload_n hC 0 rfl dX5_entry_196 ?_
    refine n_get hC clX5 h0 6 (.ref (b + (rf a0 6))) (by decide) rfl fl_X5_23 rfl dX5_entry_197 ?_
    refine n_iload hC 3 rfl dX5_entry_200 ?_
    refine n_dup2 hC rfl rfl dX5_entry_202 ?_
    refine n_iald hC (kf_X5_6 h0) dX5_entry_203 (fun g24 => ?_)
    refine n_iconst hC (1 : Int32) (by decide) dX5_entry_204 ?_
    refine n_iadd hC dX5_entry_205 ?_
    refine n_iast hC (kf_X5_6 h0) dX5_entry_206 (fun M25 => ?_)
    refine n_iload hC 3 rfl dX5_entry_207 ?_
    exact n_iret hC dX5_entry_209
  refine n_bipush hC (-5 : Int32) (by decide) dX5_entry_89 ?_
  exact n_iret hC dX5_entry_91
def j_X5_entry_32 (a0 : Nat) (x1 : Int32) (x2 : Int32) (y3 : Int64) (x5 : Int32) (s0 : Int64) (s1 : Int64) (s2 : Int64) (M : Me) : Option (Int32 × Me) := cal (f_X5_in M s2 s1 s0) (fun r4 M5 => if r4 = (0 : Int32) then some ((-3 : Int32), M5) else cal (f_X5_in M5 x5.toInt64 (1 : Int64) (8 : Int64)) (fun r6 M7 => if r6 = (0 : Int32) then some ((-3 : Int32), M7) else cal (f_X5_hasZero M7 y3 x5) (fun r8 M9 => if r8 = (0 : Int32) then if x1 = (2 : Int32) then j_X5_entry_80 a0 x1 x2 y3 x5 M9 else if (lg_cmp (y3 &&& (255 : Int64)) (47 : Int64)) = (0 : Int32) then some ((-3 : Int32), M9) else j_X5_entry_80 a0 x1 x2 y3 x5 M9 else some ((-3 : Int32), M9))))
set_option maxHeartbeats 4000000 in
set_option maxRecDepth 100000 in
theorem b_X5_entry_32 {p : Program} {l : Launch} {e : Env} {s : State} {m : MethodId} {args : Array Value} {below : List Frame} {meth : Method} {c : Code} {D : va_G} {T : Nat → ClassId} {b : Nat} (hC : CX p s m args meth c cX5_entry 8 RX5 (some .int) D T) (a0 : Nat) (x1 : Int32) (x2 : Int32) (y3 : Int64) (x5 : Int32) (s0 : Int64) (s1 : Int64) (s2 : Int64) (h0 : kd a0 = 5) (M : Me) : GN p l e (k2_rm 2 46) s m args below meth c D T b 8 eI 32 [(0, .ref (b + a0)), (1, .int x1), (2, .int x2), (3, .long y3), (5, .int x5)] [.long s0, .long s1, .long s2] M (j_X5_entry_32 a0 x1 x2 y3 x5 s0 s1 s2 M) := by
  unfold j_X5_entry_32
  refine n_callSi (As := [.long s2, .long s1, .long s0]) (rest := []) hC (c_X5_in l M s2 s1 s0) my_X5_in ml_X5_13 rfl rfl rfl (Nat.le_of_ble_eq_true rfl) ⟨by decide, by decide⟩ dX5_entry_32 (fun r4 M5 => ?_)
  refine n_if_eq hC 77 dX5_entry_35 (by decide) ?_ ?_
  · refine n_bipush hC (-3 : Int32) (by decide) dX5_entry_77 ?_
    exact n_iret hC dX5_entry_79
  refine n_iload hC 4 rfl dX5_entry_38 ?_
  refine n_i2l hC dX5_entry_40 ?_
  refine n_lconst hC (1 : Int64) (by decide) dX5_entry_41 ?_
  refine n_ldc2 hC (8 : Int64) kc_X5_60 dX5_entry_42 ?_
  refine n_callSi (As := [.long x5.toInt64, .long (1 : Int64), .long (8 : Int64)]) (rest := []) hC (c_X5_in l M5 x5.toInt64 (1 : Int64) (8 : Int64)) my_X5_in ml_X5_13 rfl rfl rfl (Nat.le_of_ble_eq_true rfl) ⟨by decide, by decide⟩ dX5_entry_45 (fun r6 M7 => ?_)
  refine n_if_eq hC 77 dX5_entry_48 (by decide) ?_ ?_
  · refine n_bipush hC (-3 : Int32) (by decide) dX5_entry_77 ?_
    exact n_iret hC dX5_entry_79
  refine n_lload_n hC 3 rfl dX5_entry_51 ?_
  refine n_iload hC 4 rfl dX5_entry_52 ?_
  refine n_callSi (As := [.long y3, .int x5]) (rest := []) hC (c_X5_hasZero l M7 y3 x5) my_X5_hasZero ml_X5_62 rfl rfl rfl (Nat.le_of_ble_eq_true rfl) ⟨by decide, by decide⟩ dX5_entry_54 (fun r8 M9 => ?_)
  refine n_if_ne hC 77 dX5_entry_57 (by decide) ?_ ?_
  · refine n_bipush hC (-3 : Int32) (by decide) dX5_entry_77 ?_
    exact n_iret hC dX5_entry_79
  refine n_iload_n hC 1 rfl dX5_entry_60 ?_
  refine n_iconst hC (2 : Int32) (by decide) dX5_entry_61 ?_
  refine n_icmp_eq hC 80 dX5_entry_62 (by decide) ?_ ?_
  · exact GN.sub [0, 1, 2, 3, 4] rfl (b_X5_entry_80 hC a0 x1 x2 y3 x5 h0 M9)
  refine n_lload_n hC 3 rfl dX5_entry_65 ?_
  refine n_ldc2 hC (255 : Int64) kc_X5_17 dX5_entry_66 ?_
  refine n_land hC dX5_entry_69 ?_
  refine n_ldc2 hC (47 : Int64) kc_X5_66 dX5_entry_70 ?_
  refine n_lcmp hC dX5_entry_73 ?_
  refine n_if_ne hC 80 dX5_entry_74 (by decide) ?_ ?_
  · exact GN.sub [0, 1, 2, 3, 4] rfl (b_X5_entry_80 hC a0 x1 x2 y3 x5 h0 M9)
  refine n_bipush hC (-3 : Int32) (by decide) dX5_entry_77 ?_
  exact n_iret hC dX5_entry_79
def f_X5_entry (M : Me) (a0 : Nat) (x1 : Int32) (x2 : Int32) (y3 : Int64) (x5 : Int32) : Option (Int32 × Me) := bnd (sI M a0 0 (0 : Int32)) (fun M1 => cal (f_X5_in M1 x1.toInt64 (0 : Int64) (2 : Int64)) (fun r2 M3 => if r2 = (0 : Int32) then some ((-3 : Int32), M3) else if x1 = (2 : Int32) then j_X5_entry_32 a0 x1 x2 y3 x5 (0 : Int64) (0 : Int64) x2.toInt64 M3 else j_X5_entry_32 a0 x1 x2 y3 x5 (2 : Int64) (0 : Int64) x2.toInt64 M3))
set_option maxHeartbeats 4000000 in
set_option maxRecDepth 100000 in
theorem c_X5_entry (l : Launch) (M : Me) (a0 : Nat) (x1 : Int32) (x2 : Int32) (y3 : Int64) (x5 : Int32) (h0 : kd a0 = 5) : CN l yX5_entry cX5_entry 8 (some .int) (k2_rm 2 46) eI (fun b => [.ref (b + a0), .int x1, .int x2, .long y3, .int x5]) M (f_X5_entry M a0 x1 x2 y3 x5) := by
  refine CN.of RX5 (fun b => [(0, .ref (b + a0)), (1, .int x1), (2, .int x2), (3, .long y3), (5, .int x5)]) (by decide) rfl (fun b => Nat.le_of_ble_eq_true rfl) (fun b => rfl) ?_
  intro p e s m args below meth c D T b hC
  unfold f_X5_entry
  refine n_aload_n hC 0 rfl dX5_entry_0 ?_
  refine n_iconst hC (0 : Int32) (by decide) dX5_entry_1 ?_
  refine n_putI hC clX5 h0 0 (by decide) rfl rfl rfl fl_X5_1 dX5_entry_2 (fun M1 => ?_)
  refine n_iload_n hC 1 rfl dX5_entry_5 ?_
  refine n_i2l hC dX5_entry_6 ?_
  refine n_lconst hC (0 : Int64) (by decide) dX5_entry_7 ?_
  refine n_ldc2 hC (2 : Int64) kc_X5_58 dX5_entry_8 ?_
  refine n_callSi (As := [.long x1.toInt64, .long (0 : Int64), .long (2 : Int64)]) (rest := []) hC (c_X5_in l M1 x1.toInt64 (0 : Int64) (2 : Int64)) my_X5_in ml_X5_13 rfl rfl rfl (Nat.le_of_ble_eq_true rfl) ⟨by decide, by decide⟩ dX5_entry_11 (fun r2 M3 => ?_)
  refine n_if_eq hC 77 dX5_entry_14 (by decide) ?_ ?_
  · refine n_bipush hC (-3 : Int32) (by decide) dX5_entry_77 ?_
    exact n_iret hC dX5_entry_79
  refine n_iload_n hC 2 rfl dX5_entry_17 ?_
  refine n_i2l hC dX5_entry_18 ?_
  refine n_lconst hC (0 : Int64) (by decide) dX5_entry_19 ?_
  refine n_iload_n hC 1 rfl dX5_entry_20 ?_
  refine n_iconst hC (2 : Int32) (by decide) dX5_entry_21 ?_
  refine n_icmp_ne hC 29 dX5_entry_22 (by decide) ?_ ?_
  · refine n_ldc2 hC (2 : Int64) kc_X5_58 dX5_entry_29 ?_
    exact GN.sub [0, 1, 2, 3, 4] rfl (b_X5_entry_32 hC a0 x1 x2 y3 x5 (2 : Int64) (0 : Int64) x2.toInt64 h0 M3)
  refine n_lconst hC (0 : Int64) (by decide) dX5_entry_25 ?_
  refine n_goto hC (tgt := 32) (by decide) dX5_entry_26 ?_
  exact GN.sub [0, 1, 2, 3, 4] rfl (b_X5_entry_32 hC a0 x1 x2 y3 x5 (0 : Int64) (0 : Int64) x2.toInt64 h0 M3)
def g_X5_name_107 (kx : Int32 → Me → Option (Int32 × Me)) (kb : Int32 × Me → Option (Int32 × Me)) (a0 : Nat) (x1 : Int32) (y2 : Int64) (x4 : Int32) (x5 : Int32) (x6 : Int32) (M : Me) : Option (Int32 × Me) := if x4 ≤ x6 then kx x6 M else cal (f_X5_byteOf M y2 x4 x6) (fun r13 M14 => chk ((((16 : Int32) * x1) + x5) + x6) (ln (rf a0 5)) (bnd (sI M14 (rf a0 5) ((((16 : Int32) * x1) + x5) + x6).toNatClampNeg r13) (fun M15 => bndV (x6 + (1 : Int32)) (fun v16 => kb (v16, M15)))))
set_option maxHeartbeats 4000000 in
set_option maxRecDepth 100000 in
theorem b_X5_name_107_g {p : Program} {l : Launch} {e : Env} {s : State} {m : MethodId} {args : Array Value} {below : List Frame} {meth : Method} {c : Code} {D : va_G} {T : Nat → ClassId} {b : Nat} (hC : CX p s m args meth c cX5_name 7 RX5 (some .int) D T) (a0 : Nat) (x1 : Int32) (y2 : Int64) (x4 : Int32) (x5 : Int32) (x6 : Int32) (h0 : kd a0 = 5) (kx : Int32 → Me → Option (Int32 × Me)) (hkx : ∀ (x6 : Int32) (M : Me), GN p l e (k2_rm 2 46) s m args below meth c D T b 7 eI 143 [(0, .ref (b + a0)), (1, .int x1), (4, .int x4)] [] M (kx x6 M)) (kb : Int32 × Me → Option (Int32 × Me)) (hkb : ∀ z : Int32 × Me, GN p l e (k2_rm 2 46) s m args below meth c D T b 7 eI 107 [(0, .ref (b + a0)), (1, .int x1), (2, .long y2), (4, .int x4), (5, .int x5), (6, .int z.1)] [] z.2 (kb z)) (M : Me) : GN p l e (k2_rm 2 46) s m args below meth c D T b 7 eI 107 [(0, .ref (b + a0)), (1, .int x1), (2, .long y2), (4, .int x4), (5, .int x5), (6, .int x6)] [] M (g_X5_name_107 kx kb a0 x1 y2 x4 x5 x6 M) := by
  unfold g_X5_name_107
  refine n_iload hC 5 rfl dX5_name_107 ?_
  refine n_iload hC 3 rfl dX5_name_109 ?_
  refine n_icmp_ge hC 143 dX5_name_111 (by decide) ?_ ?_
  · exact GN.sub [0, 1, 3] rfl (hkx x6 M)
  refine n_aload_n hC 0 rfl dX5_name_114 ?_
  refine n_get hC clX5 h0 5 (.ref (b + (rf a0 5))) (by decide) rfl fl_X5_78 rfl dX5_name_115 ?_
  refine n_bipush hC (16 : Int32) (by decide) dX5_name_118 ?_
  refine n_iload_n hC 1 rfl dX5_name_120 ?_
  refine n_imul hC dX5_name_121 ?_
  refine n_iload hC 4 rfl dX5_name_122 ?_
  refine n_iadd hC dX5_name_124 ?_
  refine n_iload hC 5 rfl dX5_name_125 ?_
  refine n_iadd hC dX5_name_127 ?_
  refine n_lload_n hC 2 rfl dX5_name_128 ?_
  refine n_iload hC 3 rfl dX5_name_129 ?_
  refine n_iload hC 5 rfl dX5_name_131 ?_
  refine n_callSi (As := [.long y2, .int x4, .int x6]) (rest := [.int ((((16 : Int32) * x1) + x5) + x6), .ref (b + (rf a0 5))]) hC (c_X5_byteOf l M y2 x4 x6) my_X5_byteOf ml_X5_19 rfl rfl rfl (Nat.le_of_ble_eq_true rfl) ⟨by decide, by decide⟩ dX5_name_133 (fun r13 M14 => ?_)
  refine n_iast hC (kf_X5_5 h0) dX5_name_136 (fun M15 => ?_)
  refine n_iincB hC (1 : Int32) (by decide) (fun v16 => [(6, .int v16), (0, .ref (b + a0)), (1, .int x1), (2, .long y2), (4, .int x4), (5, .int x5)]) 5 rfl (by decide) (fun _ => rfl) dX5_name_137 (fun v16 => ?_)
  refine n_goto hC (tgt := 107) (by decide) dX5_name_140 ?_
  exact GN.sub [1, 2, 3, 4, 5, 0] rfl (hkb (v16, M15))
def l_X5_name_107 (kx : Int32 → Me → Option (Int32 × Me)) (a0 : Nat) (x1 : Int32) (y2 : Int64) (x4 : Int32) (x5 : Int32) (x6 : Int32) (M : Me) : Option (Int32 × Me) := lp (fun kb z => g_X5_name_107 kx kb a0 x1 y2 x4 x5 z.1 z.2) FU (x6, M)
set_option maxHeartbeats 4000000 in
set_option maxRecDepth 100000 in
theorem b_X5_name_107 {p : Program} {l : Launch} {e : Env} {s : State} {m : MethodId} {args : Array Value} {below : List Frame} {meth : Method} {c : Code} {D : va_G} {T : Nat → ClassId} {b : Nat} (hC : CX p s m args meth c cX5_name 7 RX5 (some .int) D T) (a0 : Nat) (x1 : Int32) (y2 : Int64) (x4 : Int32) (x5 : Int32) (x6 : Int32) (h0 : kd a0 = 5) (kx : Int32 → Me → Option (Int32 × Me)) (hkx : ∀ (x6 : Int32) (M : Me), GN p l e (k2_rm 2 46) s m args below meth c D T b 7 eI 143 [(0, .ref (b + a0)), (1, .int x1), (4, .int x4)] [] M (kx x6 M)) (M : Me) : GN p l e (k2_rm 2 46) s m args below meth c D T b 7 eI 107 [(0, .ref (b + a0)), (1, .int x1), (2, .long y2), (4, .int x4), (5, .int x5), (6, .int x6)] [] M (l_X5_name_107 kx a0 x1 y2 x4 x5 x6 M) := by
  exact n_loop (σ := Int32 × Me) (fun z => [(0, .ref (b + a0)), (1, .int x1), (2, .long y2), (4, .int x4), (5, .int x5), (6, .int z.1)]) (fun z => z.2) (fun kb hkb z => b_X5_name_107_g hC a0 x1 y2 x4 x5 z.1 h0 kx hkx kb hkb z.2) FU (x6, M)
def j_X5_name_184 (a0 : Nat) (x1 : Int32) (M : Me) : Option (Int32 × Me) := chk x1 (ln (rf a0 6)) (some ((M.1 (rf a0 6) x1.toNatClampNeg), M))
set_option maxHeartbeats 4000000 in
set_option maxRecDepth 100000 in
theorem b_X5_name_184 {p : Program} {l : Launch} {e : Env} {s : State} {m : MethodId} {args : Array Value} {below : List Frame} {meth : Method} {c : Code} {D : va_G} {T : Nat → ClassId} {b : Nat} (hC : CX p s m args meth c cX5_name 7 RX5 (some .int) D T) (a0 : Nat) (x1 : Int32) (h0 : kd a0 = 5) (M : Me) : GN p l e (k2_rm 2 46) s m args below meth c D T b 7 eI 184 [(0, .ref (b + a0)), (1, .int x1)] [] M (j_X5_name_184 a0 x1 M) := by
  unfold j_X5_name_184
  refine n_aload_n hC 0 rfl dX5_name_184 ?_
  refine n_get hC clX5 h0 6 (.ref (b + (rf a0 6))) (by decide) rfl fl_X5_23 rfl dX5_name_185 ?_
  refine n_iload_n hC 1 rfl dX5_name_188 ?_
  refine n_iald hC (kf_X5_6 h0) dX5_name_189 (fun g22 => ?_)
  exact n_iret hC dX5_name_190
def j_X5_name_101 (a0 : Nat) (x1 : Int32) (y2 : Int64) (x4 : Int32) (s0 : Int32) (s1 : Int32) (M : Me) : Option (Int32 × Me) := bndV (s1 - s0) (fun v12 => l_X5_name_107 (fun v17 M18 => chk x1 (ln (rf a0 6)) (chk x1 (ln (rf a0 6)) (bnd (sI M18 (rf a0 6) x1.toNatClampNeg ((M18.1 (rf a0 6) x1.toNatClampNeg) + x4)) (fun M20 => chk x1 (ln (rf a0 3)) (if (M20.1 (rf a0 3) x1.toNatClampNeg) = (2 : Int32) then chk x1 (ln (rf a0 6)) (chk ((((16 : Int32) * x1) + (M20.1 (rf a0 6) x1.toNatClampNeg)) - (1 : Int32)) (ln (rf a0 5)) (bnd (sI M20 (rf a0 5) ((((16 : Int32) * x1) + (M20.1 (rf a0 6) x1.toNatClampNeg)) - (1 : Int32)).toNatClampNeg (47 : Int32)) (fun M24 => j_X5_name_184 a0 x1 M24))) else j_X5_name_184 a0 x1 M20))))) a0 x1 y2 x4 v12 (0 : Int32) M)
set_option maxHeartbeats 4000000 in
set_option maxRecDepth 100000 in
theorem b_X5_name_101 {p : Program} {l : Launch} {e : Env} {s : State} {m : MethodId} {args : Array Value} {below : List Frame} {meth : Method} {c : Code} {D : va_G} {T : Nat → ClassId} {b : Nat} (hC : CX p s m args meth c cX5_name 7 RX5 (some .int) D T) (a0 : Nat) (x1 : Int32) (y2 : Int64) (x4 : Int32) (s0 : Int32) (s1 : Int32) (h0 : kd a0 = 5) (M : Me) : GN p l e (k2_rm 2 46) s m args below meth c D T b 7 eI 101 [(0, .ref (b + a0)), (1, .int x1), (2, .long y2), (4, .int x4)] [.int s0, .int s1] M (j_X5_name_101 a0 x1 y2 x4 s0 s1 M) := by
  unfold j_X5_name_101
  refine n_isub hC dX5_name_101 ?_
  refine n_istB hC (fun v12 => [(5, .int v12), (0, .ref (b + a0)), (1, .int x1), (2, .long y2), (4, .int x4)]) (by decide) (fun _ => rfl) dX5_name_102 (fun v12 => ?_)
  refine n_iconst hC (0 : Int32) (by decide) dX5_name_104 ?_
  refine n_istore hC [(6, .int (0 : Int32)), (5, .int v12), (0, .ref (b + a0)), (1, .int x1), (2, .long y2), (4, .int x4)] (by decide) rfl dX5_name_105 ?_
  refine GN.sub [2, 3, 4, 5, 1, 0] rfl (b_X5_name_107 hC a0 x1 y2 x4 v12 (0 : Int32) h0 _ (fun v17 M18 => ?_) M)
  refine n_aload_n hC 0 rfl dX5_name_143 ?_
  refine n_get hC clX5 h0 6 (.ref (b + (rf a0 6))) (by decide) rfl fl_X5_23 rfl dX5_name_144 ?_
  refine n_iload_n hC 1 rfl dX5_name_147 ?_
  refine n_dup2 hC rfl rfl dX5_name_148 ?_
  refine n_iald hC (kf_X5_6 h0) dX5_name_149 (fun g19 => ?_)
  refine n_iload hC 2 rfl dX5_name_150 ?_
  refine n_iadd hC dX5_name_152 ?_
  refine n_iast hC (kf_X5_6 h0) dX5_name_153 (fun M20 => ?_)
  refine n_aload_n hC 0 rfl dX5_name_154 ?_
  refine n_get hC clX5 h0 3 (.ref (b + (rf a0 3))) (by decide) rfl fl_X5_72 rfl dX5_name_155 ?_
  refine n_iload_n hC 1 rfl dX5_name_158 ?_
  refine n_iald hC (kf_X5_3 h0) dX5_name_159 (fun g21 => ?_)
  refine n_iconst hC (2 : Int32) (by decide) dX5_name_160 ?_
  refine n_icmp_ne hC 184 dX5_name_161 (by decide) ?_ ?_
  · exact GN.sub [0, 1] rfl (b_X5_name_184 hC a0 x1 h0 M20)
  refine n_aload_n hC 0 rfl dX5_name_164 ?_
  refine n_get hC clX5 h0 5 (.ref (b + (rf a0 5))) (by decide) rfl fl_X5_78 rfl dX5_name_165 ?_
  refine n_bipush hC (16 : Int32) (by decide) dX5_name_168 ?_
  refine n_iload_n hC 1 rfl dX5_name_170 ?_
  refine n_imul hC dX5_name_171 ?_
  refine n_aload_n hC 0 rfl dX5_name_172 ?_
  refine n_get hC clX5 h0 6 (.ref (b + (rf a0 6))) (by decide) rfl fl_X5_23 rfl dX5_name_173 ?_
  refine n_iload_n hC 1 rfl dX5_name_176 ?_
  refine n_iald hC (kf_X5_6 h0) dX5_name_177 (fun g23 => ?_)
  refine n_iadd hC dX5_name_178 ?_
  refine n_iconst hC (1 : Int32) (by decide) dX5_name_179 ?_
  refine n_isub hC dX5_name_180 ?_
  refine n_bipush hC (47 : Int32) (by decide) dX5_name_181 ?_
  refine n_iast hC (kf_X5_5 h0) dX5_name_183 (fun M24 => ?_)
  exact GN.sub [0, 1] rfl (b_X5_name_184 hC a0 x1 h0 M24)
def j_X5_name_63 (a0 : Nat) (x1 : Int32) (y2 : Int64) (x4 : Int32) (M : Me) : Option (Int32 × Me) := chk x1 (ln (rf a0 6)) (if ((M.1 (rf a0 6) x1.toNatClampNeg) + x4) ≤ (16 : Int32) then chk x1 (ln (rf a0 6)) (chk x1 (ln (rf a0 3)) (if (M.1 (rf a0 3) x1.toNatClampNeg) = (2 : Int32) then j_X5_name_101 a0 x1 y2 x4 (1 : Int32) (M.1 (rf a0 6) x1.toNatClampNeg) M else j_X5_name_101 a0 x1 y2 x4 (0 : Int32) (M.1 (rf a0 6) x1.toNatClampNeg) M)) else some ((-5 : Int32), M))
set_option maxHeartbeats 4000000 in
set_option maxRecDepth 100000 in
theorem b_X5_name_63 {p : Program} {l : Launch} {e : Env} {s : State} {m : MethodId} {args : Array Value} {below : List Frame} {meth : Method} {c : Code} {D : va_G} {T : Nat → ClassId} {b : Nat} (hC : CX p s m args meth c cX5_name 7 RX5 (some .int) D T) (a0 : Nat) (x1 : Int32) (y2 : Int64) (x4 : Int32) (h0 : kd a0 = 5) (M : Me) : GN p l e (k2_rm 2 46) s m args below meth c D T b 7 eI 63 [(0, .ref (b + a0)), (1, .int x1), (2, .long y2), (4, .int x4)] [] M (j_X5_name_63 a0 x1 y2 x4 M) := by
  unfold j_X5_name_63
  refine n_aload_n hC 0 rfl dX5_name_63 ?_
  refine n_get hC clX5 h0 6 (.ref (b + (rf a0 6))) (by decide) rfl fl_X5_23 rfl dX5_name_64 ?_
  refine n_iload_n hC 1 rfl dX5_name_67 ?_
  refine n_iald hC (kf_X5_6 h0) dX5_name_68 (fun g9 => ?_)
  refine n_iload hC 3 rfl dX5_name_69 ?_
  refine n_iadd hC dX5_name_71 ?_
  refine n_bipush hC (16 : Int32) (by decide) dX5_name_72 ?_
  refine n_icmp_le hC 80 dX5_name_74 (by decide) ?_ ?_
  · refine n_aload_n hC 0 rfl dX5_name_80 ?_
    refine n_get hC clX5 h0 6 (.ref (b + (rf a0 6))) (by decide) rfl fl_X5_23 rfl dX5_name_81 ?_
    refine n_iload_n hC 1 rfl dX5_name_84 ?_
    refine n_iald hC (kf_X5_6 h0) dX5_name_85 (fun g10 => ?_)
    refine n_aload_n hC 0 rfl dX5_name_86 ?_
    refine n_get hC clX5 h0 3 (.ref (b + (rf a0 3))) (by decide) rfl fl_X5_72 rfl dX5_name_87 ?_
    refine n_iload_n hC 1 rfl dX5_name_90 ?_
    refine n_iald hC (kf_X5_3 h0) dX5_name_91 (fun g11 => ?_)
    refine n_iconst hC (2 : Int32) (by decide) dX5_name_92 ?_
    refine n_icmp_ne hC 100 dX5_name_93 (by decide) ?_ ?_
    · refine n_iconst hC (0 : Int32) (by decide) dX5_name_100 ?_
      exact GN.sub [0, 1, 2, 3] rfl (b_X5_name_101 hC a0 x1 y2 x4 (0 : Int32) (M.1 (rf a0 6) x1.toNatClampNeg) h0 M)
    refine n_iconst hC (1 : Int32) (by decide) dX5_name_96 ?_
    refine n_goto hC (tgt := 101) (by decide) dX5_name_97 ?_
    exact GN.sub [0, 1, 2, 3] rfl (b_X5_name_101 hC a0 x1 y2 x4 (1 : Int32) (M.1 (rf a0 6) x1.toNatClampNeg) h0 M)
  refine n_bipush hC (-5 : Int32) (by decide) dX5_name_77 ?_
  exact n_iret hC dX5_name_79
def f_X5_name (M : Me) (a0 : Nat) (x1 : Int32) (y2 : Int64) (x4 : Int32) : Option (Int32 × Me) := bnd (sI M a0 0 (0 : Int32)) (fun M1 => cal (f_X5_isEntry M1 a0 x1) (fun r2 M3 => if r2 = (0 : Int32) then some ((-2 : Int32), M3) else cal (f_X5_in M3 x4.toInt64 (1 : Int64) (8 : Int64)) (fun r4 M5 => if r4 = (0 : Int32) then some ((-3 : Int32), M5) else cal (f_X5_hasZero M5 y2 x4) (fun r6 M7 => if r6 = (0 : Int32) then chk x1 (ln (rf a0 3)) (if (M7.1 (rf a0 3) x1.toNatClampNeg) = (2 : Int32) then j_X5_name_63 a0 x1 y2 x4 M7 else if (lg_cmp (y2 &&& (255 : Int64)) (47 : Int64)) = (0 : Int32) then some ((-3 : Int32), M7) else j_X5_name_63 a0 x1 y2 x4 M7) else some ((-3 : Int32), M7)))))
set_option maxHeartbeats 4000000 in
set_option maxRecDepth 100000 in
theorem c_X5_name (l : Launch) (M : Me) (a0 : Nat) (x1 : Int32) (y2 : Int64) (x4 : Int32) (h0 : kd a0 = 5) : CN l yX5_name cX5_name 7 (some .int) (k2_rm 2 46) eI (fun b => [.ref (b + a0), .int x1, .long y2, .int x4]) M (f_X5_name M a0 x1 y2 x4) := by
  refine CN.of RX5 (fun b => [(0, .ref (b + a0)), (1, .int x1), (2, .long y2), (4, .int x4)]) (by decide) rfl (fun b => Nat.le_of_ble_eq_true rfl) (fun b => rfl) ?_
  intro p e s m args below meth c D T b hC
  unfold f_X5_name
  refine n_aload_n hC 0 rfl dX5_name_0 ?_
  refine n_iconst hC (0 : Int32) (by decide) dX5_name_1 ?_
  refine n_putI hC clX5 h0 0 (by decide) rfl rfl rfl fl_X5_1 dX5_name_2 (fun M1 => ?_)
  refine n_aload_n hC 0 rfl dX5_name_5 ?_
  refine n_iload_n hC 1 rfl dX5_name_6 ?_
  refine n_callVi (As := [.int x1]) (rest := []) h0 rfl (by decide) hC (c_X5_isEntry l M1 a0 x1 h0) my_X5_isEntry ml_X5_81 rfl rfl rfl (Nat.le_of_ble_eq_true rfl) ⟨by decide, by decide⟩ dX5_name_7 (fun r2 M3 => ?_)
  refine n_if_ne hC 16 dX5_name_10 (by decide) ?_ ?_
  · refine n_iload hC 3 rfl dX5_name_16 ?_
    refine n_i2l hC dX5_name_18 ?_
    refine n_lconst hC (1 : Int64) (by decide) dX5_name_19 ?_
    refine n_ldc2 hC (8 : Int64) kc_X5_60 dX5_name_20 ?_
    refine n_callSi (As := [.long x4.toInt64, .long (1 : Int64), .long (8 : Int64)]) (rest := []) hC (c_X5_in l M3 x4.toInt64 (1 : Int64) (8 : Int64)) my_X5_in ml_X5_13 rfl rfl rfl (Nat.le_of_ble_eq_true rfl) ⟨by decide, by decide⟩ dX5_name_23 (fun r4 M5 => ?_)
    refine n_if_eq hC 60 dX5_name_26 (by decide) ?_ ?_
    · refine n_bipush hC (-3 : Int32) (by decide) dX5_name_60 ?_
      exact n_iret hC dX5_name_62
    refine n_lload_n hC 2 rfl dX5_name_29 ?_
    refine n_iload hC 3 rfl dX5_name_30 ?_
    refine n_callSi (As := [.long y2, .int x4]) (rest := []) hC (c_X5_hasZero l M5 y2 x4) my_X5_hasZero ml_X5_62 rfl rfl rfl (Nat.le_of_ble_eq_true rfl) ⟨by decide, by decide⟩ dX5_name_32 (fun r6 M7 => ?_)
    refine n_if_ne hC 60 dX5_name_35 (by decide) ?_ ?_
    · refine n_bipush hC (-3 : Int32) (by decide) dX5_name_60 ?_
      exact n_iret hC dX5_name_62
    refine n_aload_n hC 0 rfl dX5_name_38 ?_
    refine n_get hC clX5 h0 3 (.ref (b + (rf a0 3))) (by decide) rfl fl_X5_72 rfl dX5_name_39 ?_
    refine n_iload_n hC 1 rfl dX5_name_42 ?_
    refine n_iald hC (kf_X5_3 h0) dX5_name_43 (fun g8 => ?_)
    refine n_iconst hC (2 : Int32) (by decide) dX5_name_44 ?_
    refine n_icmp_eq hC 63 dX5_name_45 (by decide) ?_ ?_
    · exact GN.sub [0, 1, 2, 3] rfl (b_X5_name_63 hC a0 x1 y2 x4 h0 M7)
    refine n_lload_n hC 2 rfl dX5_name_48 ?_
    refine n_ldc2 hC (255 : Int64) kc_X5_17 dX5_name_49 ?_
    refine n_land hC dX5_name_52 ?_
    refine n_ldc2 hC (47 : Int64) kc_X5_66 dX5_name_53 ?_
    refine n_lcmp hC dX5_name_56 ?_
    refine n_if_ne hC 63 dX5_name_57 (by decide) ?_ ?_
    · exact GN.sub [0, 1, 2, 3] rfl (b_X5_name_63 hC a0 x1 y2 x4 h0 M7)
    refine n_bipush hC (-3 : Int32) (by decide) dX5_name_60 ?_
    exact n_iret hC dX5_name_62
  refine n_bipush hC (-2 : Int32) (by decide) dX5_name_13 ?_
  exact n_iret hC dX5_name_15
def g_X5_data_82 (kx : Int32 → Me → Option (Int32 × Me)) (kb : Int32 × Me → Option (Int32 × Me)) (a0 : Nat) (x1 : Int32) (y2 : Int64) (x4 : Int32) (x5 : Int32) (M : Me) : Option (Int32 × Me) := if x4 ≤ x5 then kx x5 M else chk x1 (ln (rf a0 15)) (cal (f_X5_byteOf M y2 x4 x5) (fun r11 M12 => chk ((((40 : Int32) * x1) + (M.1 (rf a0 15) x1.toNatClampNeg)) + x5) (ln (rf a0 16)) (bnd (sI M12 (rf a0 16) ((((40 : Int32) * x1) + (M.1 (rf a0 15) x1.toNatClampNeg)) + x5).toNatClampNeg r11) (fun M13 => bndV (x5 + (1 : Int32)) (fun v14 => kb (v14, M13))))))
set_option maxHeartbeats 4000000 in
set_option maxRecDepth 100000 in
theorem b_X5_data_82_g {p : Program} {l : Launch} {e : Env} {s : State} {m : MethodId} {args : Array Value} {below : List Frame} {meth : Method} {c : Code} {D : va_G} {T : Nat → ClassId} {b : Nat} (hC : CX p s m args meth c cX5_data 6 RX5 (some .int) D T) (a0 : Nat) (x1 : Int32) (y2 : Int64) (x4 : Int32) (x5 : Int32) (h0 : kd a0 = 5) (kx : Int32 → Me → Option (Int32 × Me)) (hkx : ∀ (x5 : Int32) (M : Me), GN p l e (k2_rm 2 46) s m args below meth c D T b 6 eI 122 [(0, .ref (b + a0)), (1, .int x1), (4, .int x4)] [] M (kx x5 M)) (kb : Int32 × Me → Option (Int32 × Me)) (hkb : ∀ z : Int32 × Me, GN p l e (k2_rm 2 46) s m args below meth c D T b 6 eI 82 [(0, .ref (b + a0)), (1, .int x1), (2, .long y2), (4, .int x4), (5, .int z.1)] [] z.2 (kb z)) (M : Me) : GN p l e (k2_rm 2 46) s m args below meth c D T b 6 eI 82 [(0, .ref (b + a0)), (1, .int x1), (2, .long y2), (4, .int x4), (5, .int x5)] [] M (g_X5_data_82 kx kb a0 x1 y2 x4 x5 M) := by
  unfold g_X5_data_82
  refine n_iload hC 4 rfl dX5_data_82 ?_
  refine n_iload hC 3 rfl dX5_data_84 ?_
  refine n_icmp_ge hC 122 dX5_data_86 (by decide) ?_ ?_
  · exact GN.sub [0, 1, 3] rfl (hkx x5 M)
  refine n_aload_n hC 0 rfl dX5_data_89 ?_
  refine n_get hC clX5 h0 16 (.ref (b + (rf a0 16))) (by decide) rfl fl_X5_89 rfl dX5_data_90 ?_
  refine n_bipush hC (40 : Int32) (by decide) dX5_data_93 ?_
  refine n_iload_n hC 1 rfl dX5_data_95 ?_
  refine n_imul hC dX5_data_96 ?_
  refine n_aload_n hC 0 rfl dX5_data_97 ?_
  refine n_get hC clX5 h0 15 (.ref (b + (rf a0 15))) (by decide) rfl fl_X5_43 rfl dX5_data_98 ?_
  refine n_iload_n hC 1 rfl dX5_data_101 ?_
  refine n_iald hC (kf_X5_15 h0) dX5_data_102 (fun g10 => ?_)
  refine n_iadd hC dX5_data_103 ?_
  refine n_iload hC 4 rfl dX5_data_104 ?_
  refine n_iadd hC dX5_data_106 ?_
  refine n_lload_n hC 2 rfl dX5_data_107 ?_
  refine n_iload hC 3 rfl dX5_data_108 ?_
  refine n_iload hC 4 rfl dX5_data_110 ?_
  refine n_callSi (As := [.long y2, .int x4, .int x5]) (rest := [.int ((((40 : Int32) * x1) + (M.1 (rf a0 15) x1.toNatClampNeg)) + x5), .ref (b + (rf a0 16))]) hC (c_X5_byteOf l M y2 x4 x5) my_X5_byteOf ml_X5_19 rfl rfl rfl (Nat.le_of_ble_eq_true rfl) ⟨by decide, by decide⟩ dX5_data_112 (fun r11 M12 => ?_)
  refine n_iast hC (kf_X5_16 h0) dX5_data_115 (fun M13 => ?_)
  refine n_iincB hC (1 : Int32) (by decide) (fun v14 => [(5, .int v14), (0, .ref (b + a0)), (1, .int x1), (2, .long y2), (4, .int x4)]) 4 rfl (by decide) (fun _ => rfl) dX5_data_116 (fun v14 => ?_)
  refine n_goto hC (tgt := 82) (by decide) dX5_data_119 ?_
  exact GN.sub [1, 2, 3, 4, 0] rfl (hkb (v14, M13))
def l_X5_data_82 (kx : Int32 → Me → Option (Int32 × Me)) (a0 : Nat) (x1 : Int32) (y2 : Int64) (x4 : Int32) (x5 : Int32) (M : Me) : Option (Int32 × Me) := lp (fun kb z => g_X5_data_82 kx kb a0 x1 y2 x4 z.1 z.2) FU (x5, M)
set_option maxHeartbeats 4000000 in
set_option maxRecDepth 100000 in
theorem b_X5_data_82 {p : Program} {l : Launch} {e : Env} {s : State} {m : MethodId} {args : Array Value} {below : List Frame} {meth : Method} {c : Code} {D : va_G} {T : Nat → ClassId} {b : Nat} (hC : CX p s m args meth c cX5_data 6 RX5 (some .int) D T) (a0 : Nat) (x1 : Int32) (y2 : Int64) (x4 : Int32) (x5 : Int32) (h0 : kd a0 = 5) (kx : Int32 → Me → Option (Int32 × Me)) (hkx : ∀ (x5 : Int32) (M : Me), GN p l e (k2_rm 2 46) s m args below meth c D T b 6 eI 122 [(0, .ref (b + a0)), (1, .int x1), (4, .int x4)] [] M (kx x5 M)) (M : Me) : GN p l e (k2_rm 2 46) s m args below meth c D T b 6 eI 82 [(0, .ref (b + a0)), (1, .int x1), (2, .long y2), (4, .int x4), (5, .int x5)] [] M (l_X5_data_82 kx a0 x1 y2 x4 x5 M) := by
  exact n_loop (σ := Int32 × Me) (fun z => [(0, .ref (b + a0)), (1, .int x1), (2, .long y2), (4, .int x4), (5, .int z.1)]) (fun z => z.2) (fun kb hkb z => b_X5_data_82_g hC a0 x1 y2 x4 z.1 h0 kx hkx kb hkb z.2) FU (x5, M)
def f_X5_data (M : Me) (a0 : Nat) (x1 : Int32) (y2 : Int64) (x4 : Int32) : Option (Int32 × Me) := bnd (sI M a0 0 (0 : Int32)) (fun M1 => cal (f_X5_isEntry M1 a0 x1) (fun r2 M3 => if r2 = (0 : Int32) then some ((-2 : Int32), M3) else cal (f_X5_in M3 x4.toInt64 (0 : Int64) (8 : Int64)) (fun r4 M5 => if r4 = (0 : Int32) then some ((-3 : Int32), M5) else chk x1 (ln (rf a0 15)) (if ((M5.1 (rf a0 15) x1.toNatClampNeg) + x4) ≤ (40 : Int32) then chk x1 (ln (rf a0 3)) (if (M5.1 (rf a0 3) x1.toNatClampNeg) = (2 : Int32) then cal (f_X5_fails M5 a0 (2 : Int32)) (fun r20 M21 => some (r20, M21)) else chk x1 (ln (rf a0 14)) (bnd (sI M5 (rf a0 14) x1.toNatClampNeg (vp_nar .boolean (1 : Int32))) (fun M8 => chk x1 (ln (rf a0 19)) (bnd (sI M8 (rf a0 19) x1.toNatClampNeg (vp_nar .boolean (0 : Int32))) (fun M9 => l_X5_data_82 (fun v15 M16 => chk x1 (ln (rf a0 15)) (chk x1 (ln (rf a0 15)) (bnd (sI M16 (rf a0 15) x1.toNatClampNeg ((M16.1 (rf a0 15) x1.toNatClampNeg) + x4)) (fun M18 => chk x1 (ln (rf a0 15)) (some ((M18.1 (rf a0 15) x1.toNatClampNeg), M18)))))) a0 x1 y2 x4 (0 : Int32) M9))))) else some ((-5 : Int32), M5)))))
set_option maxHeartbeats 4000000 in
set_option maxRecDepth 100000 in
theorem c_X5_data (l : Launch) (M : Me) (a0 : Nat) (x1 : Int32) (y2 : Int64) (x4 : Int32) (h0 : kd a0 = 5) : CN l yX5_data cX5_data 6 (some .int) (k2_rm 2 46) eI (fun b => [.ref (b + a0), .int x1, .long y2, .int x4]) M (f_X5_data M a0 x1 y2 x4) := by
  refine CN.of RX5 (fun b => [(0, .ref (b + a0)), (1, .int x1), (2, .long y2), (4, .int x4)]) (by decide) rfl (fun b => Nat.le_of_ble_eq_true rfl) (fun b => rfl) ?_
  intro p e s m args below meth c D T b hC
  unfold f_X5_data
  refine n_aload_n hC 0 rfl dX5_data_0 ?_
  refine n_iconst hC (0 : Int32) (by decide) dX5_data_1 ?_
  refine n_putI hC clX5 h0 0 (by decide) rfl rfl rfl fl_X5_1 dX5_data_2 (fun M1 => ?_)
  refine n_aload_n hC 0 rfl dX5_data_5 ?_
  refine n_iload_n hC 1 rfl dX5_data_6 ?_
  refine n_callVi (As := [.int x1]) (rest := []) h0 rfl (by decide) hC (c_X5_isEntry l M1 a0 x1 h0) my_X5_isEntry ml_X5_81 rfl rfl rfl (Nat.le_of_ble_eq_true rfl) ⟨by decide, by decide⟩ dX5_data_7 (fun r2 M3 => ?_)
  refine n_if_ne hC 16 dX5_data_10 (by decide) ?_ ?_
  · refine n_iload hC 3 rfl dX5_data_16 ?_
    refine n_i2l hC dX5_data_18 ?_
    refine n_lconst hC (0 : Int64) (by decide) dX5_data_19 ?_
    refine n_ldc2 hC (8 : Int64) kc_X5_60 dX5_data_20 ?_
    refine n_callSi (As := [.long x4.toInt64, .long (0 : Int64), .long (8 : Int64)]) (rest := []) hC (c_X5_in l M3 x4.toInt64 (0 : Int64) (8 : Int64)) my_X5_in ml_X5_13 rfl rfl rfl (Nat.le_of_ble_eq_true rfl) ⟨by decide, by decide⟩ dX5_data_23 (fun r4 M5 => ?_)
    refine n_if_ne hC 32 dX5_data_26 (by decide) ?_ ?_
    · refine n_aload_n hC 0 rfl dX5_data_32 ?_
      refine n_get hC clX5 h0 15 (.ref (b + (rf a0 15))) (by decide) rfl fl_X5_43 rfl dX5_data_33 ?_
      refine n_iload_n hC 1 rfl dX5_data_36 ?_
      refine n_iald hC (kf_X5_15 h0) dX5_data_37 (fun g6 => ?_)
      refine n_iload hC 3 rfl dX5_data_38 ?_
      refine n_iadd hC dX5_data_40 ?_
      refine n_bipush hC (40 : Int32) (by decide) dX5_data_41 ?_
      refine n_icmp_le hC 49 dX5_data_43 (by decide) ?_ ?_
      · refine n_aload_n hC 0 rfl dX5_data_49 ?_
        refine n_get hC clX5 h0 3 (.ref (b + (rf a0 3))) (by decide) rfl fl_X5_72 rfl dX5_data_50 ?_
        refine n_iload_n hC 1 rfl dX5_data_53 ?_
        refine n_iald hC (kf_X5_3 h0) dX5_data_54 (fun g7 => ?_)
        refine n_iconst hC (2 : Int32) (by decide) dX5_data_55 ?_
        refine n_icmp_ne hC 65 dX5_data_56 (by decide) ?_ ?_
        · refine n_aload_n hC 0 rfl dX5_data_65 ?_
          refine n_get hC clX5 h0 14 (.ref (b + (rf a0 14))) (by decide) rfl fl_X5_39 rfl dX5_data_66 ?_
          refine n_iload_n hC 1 rfl dX5_data_69 ?_
          refine n_iconst hC (1 : Int32) (by decide) dX5_data_70 ?_
          refine n_zast hC (kf_X5_14 h0) dX5_data_71 (fun M8 => ?_)
          refine n_aload_n hC 0 rfl dX5_data_72 ?_
          refine n_get hC clX5 h0 19 (.ref (b + (rf a0 19))) (by decide) rfl fl_X5_52 rfl dX5_data_73 ?_
          refine n_iload_n hC 1 rfl dX5_data_76 ?_
          refine n_iconst hC (0 : Int32) (by decide) dX5_data_77 ?_
          refine n_zast hC (kf_X5_19 h0) dX5_data_78 (fun M9 => ?_)
          refine n_iconst hC (0 : Int32) (by decide) dX5_data_79 ?_
          refine n_istore hC [(5, .int (0 : Int32)), (0, .ref (b + a0)), (1, .int x1), (2, .long y2), (4, .int x4)] (by decide) rfl dX5_data_80 ?_
          refine GN.sub [1, 2, 3, 4, 0] rfl (b_X5_data_82 hC a0 x1 y2 x4 (0 : Int32) h0 _ (fun v15 M16 => ?_) M9)
          refine n_aload_n hC 0 rfl dX5_data_122 ?_
          refine n_get hC clX5 h0 15 (.ref (b + (rf a0 15))) (by decide) rfl fl_X5_43 rfl dX5_data_123 ?_
          refine n_iload_n hC 1 rfl dX5_data_126 ?_
          refine n_dup2 hC rfl rfl dX5_data_127 ?_
          refine n_iald hC (kf_X5_15 h0) dX5_data_128 (fun g17 => ?_)
          refine n_iload hC 2 rfl dX5_data_129 ?_
          refine n_iadd hC dX5_data_131 ?_
          refine n_iast hC (kf_X5_15 h0) dX5_data_132 (fun M18 => ?_)
          refine n_aload_n hC 0 rfl dX5_data_133 ?_
          refine n_get hC clX5 h0 15 (.ref (b + (rf a0 15))) (by decide) rfl fl_X5_43 rfl dX5_data_134 ?_
          refine n_iload_n hC 1 rfl dX5_data_137 ?_
          refine n_iald hC (kf_X5_15 h0) dX5_data_138 (fun g19 => ?_)
          exact n_iret hC dX5_data_139
        refine n_aload_n hC 0 rfl dX5_data_59 ?_
        refine n_iconst hC (2 : Int32) (by decide) dX5_data_60 ?_
        refine n_callVi (As := [.int (2 : Int32)]) (rest := []) h0 rfl (by decide) hC (c_X5_fails l M5 a0 (2 : Int32) h0) my_X5_fails ml_X5_85 rfl rfl rfl (Nat.le_of_ble_eq_true rfl) ⟨by decide, by decide⟩ dX5_data_61 (fun r20 M21 => ?_)
        exact n_iret hC dX5_data_64
      refine n_bipush hC (-5 : Int32) (by decide) dX5_data_46 ?_
      exact n_iret hC dX5_data_48
    refine n_bipush hC (-3 : Int32) (by decide) dX5_data_29 ?_
    exact n_iret hC dX5_data_31
  refine n_bipush hC (-2 : Int32) (by decide) dX5_data_13 ?_
  exact n_iret hC dX5_data_15
def f_X5_packed (M : Me) (a0 : Nat) (x1 : Int32) (x2 : Int32) (x3 : Int32) : Option (Int32 × Me) := bnd (sI M a0 0 (0 : Int32)) (fun M1 => cal (f_X5_isEntry M1 a0 x1) (fun r2 M3 => if r2 = (0 : Int32) then some ((-2 : Int32), M3) else cal (f_X5_in M3 x2.toInt64 (0 : Int64) (1000000 : Int64)) (fun r4 M5 => if r4 = (0 : Int32) then some ((-3 : Int32), M5) else chk x1 (ln (rf a0 3)) (if (M5.1 (rf a0 3) x1.toNatClampNeg) = (1 : Int32) then chk x1 (ln (rf a0 17)) (bnd (sI M5 (rf a0 17) x1.toNatClampNeg x2) (fun M7 => chk x1 (ln (rf a0 18)) (bnd (sI M7 (rf a0 18) x1.toNatClampNeg x3) (fun M8 => some ((1 : Int32), M8))))) else cal (f_X5_fails M5 a0 (2 : Int32)) (fun r9 M10 => some (r9, M10))))))
set_option maxHeartbeats 4000000 in
set_option maxRecDepth 100000 in
theorem c_X5_packed (l : Launch) (M : Me) (a0 : Nat) (x1 : Int32) (x2 : Int32) (x3 : Int32) (h0 : kd a0 = 5) : CN l yX5_packed cX5_packed 4 (some .int) (k2_rm 2 46) eI (fun b => [.ref (b + a0), .int x1, .int x2, .int x3]) M (f_X5_packed M a0 x1 x2 x3) := by
  refine CN.of RX5 (fun b => [(0, .ref (b + a0)), (1, .int x1), (2, .int x2), (3, .int x3)]) (by decide) rfl (fun b => Nat.le_of_ble_eq_true rfl) (fun b => rfl) ?_
  intro p e s m args below meth c D T b hC
  unfold f_X5_packed
  refine n_aload_n hC 0 rfl dX5_packed_0 ?_
  refine n_iconst hC (0 : Int32) (by decide) dX5_packed_1 ?_
  refine n_putI hC clX5 h0 0 (by decide) rfl rfl rfl fl_X5_1 dX5_packed_2 (fun M1 => ?_)
  refine n_aload_n hC 0 rfl dX5_packed_5 ?_
  refine n_iload_n hC 1 rfl dX5_packed_6 ?_
  refine n_callVi (As := [.int x1]) (rest := []) h0 rfl (by decide) hC (c_X5_isEntry l M1 a0 x1 h0) my_X5_isEntry ml_X5_81 rfl rfl rfl (Nat.le_of_ble_eq_true rfl) ⟨by decide, by decide⟩ dX5_packed_7 (fun r2 M3 => ?_)
  refine n_if_ne hC 16 dX5_packed_10 (by decide) ?_ ?_
  · refine n_iload_n hC 2 rfl dX5_packed_16 ?_
    refine n_i2l hC dX5_packed_17 ?_
    refine n_lconst hC (0 : Int64) (by decide) dX5_packed_18 ?_
    refine n_ldc2 hC (1000000 : Int64) kc_X5_92 dX5_packed_19 ?_
    refine n_callSi (As := [.long x2.toInt64, .long (0 : Int64), .long (1000000 : Int64)]) (rest := []) hC (c_X5_in l M3 x2.toInt64 (0 : Int64) (1000000 : Int64)) my_X5_in ml_X5_13 rfl rfl rfl (Nat.le_of_ble_eq_true rfl) ⟨by decide, by decide⟩ dX5_packed_22 (fun r4 M5 => ?_)
    refine n_if_ne hC 31 dX5_packed_25 (by decide) ?_ ?_
    · refine n_aload_n hC 0 rfl dX5_packed_31 ?_
      refine n_get hC clX5 h0 3 (.ref (b + (rf a0 3))) (by decide) rfl fl_X5_72 rfl dX5_packed_32 ?_
      refine n_iload_n hC 1 rfl dX5_packed_35 ?_
      refine n_iald hC (kf_X5_3 h0) dX5_packed_36 (fun g6 => ?_)
      refine n_iconst hC (1 : Int32) (by decide) dX5_packed_37 ?_
      refine n_icmp_eq hC 47 dX5_packed_38 (by decide) ?_ ?_
      · refine n_aload_n hC 0 rfl dX5_packed_47 ?_
        refine n_get hC clX5 h0 17 (.ref (b + (rf a0 17))) (by decide) rfl fl_X5_46 rfl dX5_packed_48 ?_
        refine n_iload_n hC 1 rfl dX5_packed_51 ?_
        refine n_iload_n hC 2 rfl dX5_packed_52 ?_
        refine n_iast hC (kf_X5_17 h0) dX5_packed_53 (fun M7 => ?_)
        refine n_aload_n hC 0 rfl dX5_packed_54 ?_
        refine n_get hC clX5 h0 18 (.ref (b + (rf a0 18))) (by decide) rfl fl_X5_49 rfl dX5_packed_55 ?_
        refine n_iload_n hC 1 rfl dX5_packed_58 ?_
        refine n_iload_n hC 3 rfl dX5_packed_59 ?_
        refine n_iast hC (kf_X5_18 h0) dX5_packed_60 (fun M8 => ?_)
        refine n_iconst hC (1 : Int32) (by decide) dX5_packed_61 ?_
        exact n_iret hC dX5_packed_62
      refine n_aload_n hC 0 rfl dX5_packed_41 ?_
      refine n_iconst hC (2 : Int32) (by decide) dX5_packed_42 ?_
      refine n_callVi (As := [.int (2 : Int32)]) (rest := []) h0 rfl (by decide) hC (c_X5_fails l M5 a0 (2 : Int32) h0) my_X5_fails ml_X5_85 rfl rfl rfl (Nat.le_of_ble_eq_true rfl) ⟨by decide, by decide⟩ dX5_packed_43 (fun r9 M10 => ?_)
      exact n_iret hC dX5_packed_46
    refine n_bipush hC (-3 : Int32) (by decide) dX5_packed_28 ?_
    exact n_iret hC dX5_packed_30
  refine n_bipush hC (-2 : Int32) (by decide) dX5_packed_13 ?_
  exact n_iret hC dX5_packed_15
def g_X5_part_91 (kx : Int32 → Me → Option (Int32 × Me)) (kb : Int32 × Me → Option (Int32 × Me)) (a0 : Nat) (x1 : Int32) (y3 : Int64) (x5 : Int32) (x6 : Int32) (x7 : Int32) (M : Me) : Option (Int32 × Me) := if x5 ≤ x7 then kx x7 M else cal (f_X5_byteOf M y3 x5 x7) (fun r13 M14 => chk (((8 : Int32) * x6) + x7) (ln (rf a0 13)) (bnd (sI M14 (rf a0 13) (((8 : Int32) * x6) + x7).toNatClampNeg r13) (fun M15 => bndV (x7 + (1 : Int32)) (fun v16 => kb (v16, M15)))))
set_option maxHeartbeats 4000000 in
set_option maxRecDepth 100000 in
theorem b_X5_part_91_g {p : Program} {l : Launch} {e : Env} {s : State} {m : MethodId} {args : Array Value} {below : List Frame} {meth : Method} {c : Code} {D : va_G} {T : Nat → ClassId} {b : Nat} (hC : CX p s m args meth c cX5_part 8 RX5 (some .int) D T) (a0 : Nat) (x1 : Int32) (y3 : Int64) (x5 : Int32) (x6 : Int32) (x7 : Int32) (h0 : kd a0 = 5) (kx : Int32 → Me → Option (Int32 × Me)) (hkx : ∀ (x7 : Int32) (M : Me), GN p l e (k2_rm 2 46) s m args below meth c D T b 8 eI 125 [(0, .ref (b + a0)), (1, .int x1)] [] M (kx x7 M)) (kb : Int32 × Me → Option (Int32 × Me)) (hkb : ∀ z : Int32 × Me, GN p l e (k2_rm 2 46) s m args below meth c D T b 8 eI 91 [(0, .ref (b + a0)), (1, .int x1), (3, .long y3), (5, .int x5), (6, .int x6), (7, .int z.1)] [] z.2 (kb z)) (M : Me) : GN p l e (k2_rm 2 46) s m args below meth c D T b 8 eI 91 [(0, .ref (b + a0)), (1, .int x1), (3, .long y3), (5, .int x5), (6, .int x6), (7, .int x7)] [] M (g_X5_part_91 kx kb a0 x1 y3 x5 x6 x7 M) := by
  unfold g_X5_part_91
  refine n_iload hC 5 rfl dX5_part_91 ?_
  refine n_iload hC 3 rfl dX5_part_93 ?_
  refine n_icmp_ge hC 125 dX5_part_95 (by decide) ?_ ?_
  · exact GN.sub [0, 1] rfl (hkx x7 M)
  refine n_aload_n hC 0 rfl dX5_part_98 ?_
  refine n_get hC clX5 h0 13 (.ref (b + (rf a0 13))) (by decide) rfl fl_X5_102 rfl dX5_part_99 ?_
  refine n_bipush hC (8 : Int32) (by decide) dX5_part_102 ?_
  refine n_iload hC 4 rfl dX5_part_104 ?_
  refine n_imul hC dX5_part_106 ?_
  refine n_iload hC 5 rfl dX5_part_107 ?_
  refine n_iadd hC dX5_part_109 ?_
  refine n_lload_n hC 2 rfl dX5_part_110 ?_
  refine n_iload hC 3 rfl dX5_part_111 ?_
  refine n_iload hC 5 rfl dX5_part_113 ?_
  refine n_callSi (As := [.long y3, .int x5, .int x7]) (rest := [.int (((8 : Int32) * x6) + x7), .ref (b + (rf a0 13))]) hC (c_X5_byteOf l M y3 x5 x7) my_X5_byteOf ml_X5_19 rfl rfl rfl (Nat.le_of_ble_eq_true rfl) ⟨by decide, by decide⟩ dX5_part_115 (fun r13 M14 => ?_)
  refine n_iast hC (kf_X5_13 h0) dX5_part_118 (fun M15 => ?_)
  refine n_iincB hC (1 : Int32) (by decide) (fun v16 => [(7, .int v16), (0, .ref (b + a0)), (1, .int x1), (3, .long y3), (5, .int x5), (6, .int x6)]) 5 rfl (by decide) (fun _ => rfl) dX5_part_119 (fun v16 => ?_)
  refine n_goto hC (tgt := 91) (by decide) dX5_part_122 ?_
  exact GN.sub [1, 2, 3, 4, 5, 0] rfl (hkb (v16, M15))
def l_X5_part_91 (kx : Int32 → Me → Option (Int32 × Me)) (a0 : Nat) (x1 : Int32) (y3 : Int64) (x5 : Int32) (x6 : Int32) (x7 : Int32) (M : Me) : Option (Int32 × Me) := lp (fun kb z => g_X5_part_91 kx kb a0 x1 y3 x5 x6 z.1 z.2) FU (x7, M)
set_option maxHeartbeats 4000000 in
set_option maxRecDepth 100000 in
theorem b_X5_part_91 {p : Program} {l : Launch} {e : Env} {s : State} {m : MethodId} {args : Array Value} {below : List Frame} {meth : Method} {c : Code} {D : va_G} {T : Nat → ClassId} {b : Nat} (hC : CX p s m args meth c cX5_part 8 RX5 (some .int) D T) (a0 : Nat) (x1 : Int32) (y3 : Int64) (x5 : Int32) (x6 : Int32) (x7 : Int32) (h0 : kd a0 = 5) (kx : Int32 → Me → Option (Int32 × Me)) (hkx : ∀ (x7 : Int32) (M : Me), GN p l e (k2_rm 2 46) s m args below meth c D T b 8 eI 125 [(0, .ref (b + a0)), (1, .int x1)] [] M (kx x7 M)) (M : Me) : GN p l e (k2_rm 2 46) s m args below meth c D T b 8 eI 91 [(0, .ref (b + a0)), (1, .int x1), (3, .long y3), (5, .int x5), (6, .int x6), (7, .int x7)] [] M (l_X5_part_91 kx a0 x1 y3 x5 x6 x7 M) := by
  exact n_loop (σ := Int32 × Me) (fun z => [(0, .ref (b + a0)), (1, .int x1), (3, .long y3), (5, .int x5), (6, .int x6), (7, .int z.1)]) (fun z => z.2) (fun kb hkb z => b_X5_part_91_g hC a0 x1 y3 x5 x6 z.1 h0 kx hkx kb hkb z.2) FU (x7, M)
def f_X5_part (M : Me) (a0 : Nat) (x1 : Int32) (x2 : Int32) (y3 : Int64) (x5 : Int32) : Option (Int32 × Me) := bnd (sI M a0 0 (0 : Int32)) (fun M1 => cal (f_X5_isEntry M1 a0 x1) (fun r2 M3 => if r2 = (0 : Int32) then some ((-2 : Int32), M3) else cal (f_X5_in M3 x2.toInt64 (2 : Int64) (65535 : Int64)) (fun r4 M5 => if r4 = (0 : Int32) then some ((-3 : Int32), M5) else cal (f_X5_in M5 x5.toInt64 (0 : Int64) (8 : Int64)) (fun r6 M7 => if r6 = (0 : Int32) then some ((-3 : Int32), M7) else chk x1 (ln (rf a0 10)) (if (M7.1 (rf a0 10) x1.toNatClampNeg) = (3 : Int32) then some ((-5 : Int32), M7) else chk x1 (ln (rf a0 10)) (bndV (((3 : Int32) * x1) + (M7.1 (rf a0 10) x1.toNatClampNeg)) (fun v10 => chk v10 (ln (rf a0 11)) (bnd (sI M7 (rf a0 11) v10.toNatClampNeg x2) (fun M11 => chk v10 (ln (rf a0 12)) (bnd (sI M11 (rf a0 12) v10.toNatClampNeg x5) (fun M12 => l_X5_part_91 (fun v17 M18 => chk x1 (ln (rf a0 10)) (chk x1 (ln (rf a0 10)) (bnd (sI M18 (rf a0 10) x1.toNatClampNeg ((M18.1 (rf a0 10) x1.toNatClampNeg) + (1 : Int32))) (fun M20 => chk x1 (ln (rf a0 10)) (some ((M20.1 (rf a0 10) x1.toNatClampNeg), M20)))))) a0 x1 y3 x5 v10 (0 : Int32) M12)))))))))))
set_option maxHeartbeats 4000000 in
set_option maxRecDepth 100000 in
theorem c_X5_part (l : Launch) (M : Me) (a0 : Nat) (x1 : Int32) (x2 : Int32) (y3 : Int64) (x5 : Int32) (h0 : kd a0 = 5) : CN l yX5_part cX5_part 8 (some .int) (k2_rm 2 46) eI (fun b => [.ref (b + a0), .int x1, .int x2, .long y3, .int x5]) M (f_X5_part M a0 x1 x2 y3 x5) := by
  refine CN.of RX5 (fun b => [(0, .ref (b + a0)), (1, .int x1), (2, .int x2), (3, .long y3), (5, .int x5)]) (by decide) rfl (fun b => Nat.le_of_ble_eq_true rfl) (fun b => rfl) ?_
  intro p e s m args below meth c D T b hC
  unfold f_X5_part
  refine n_aload_n hC 0 rfl dX5_part_0 ?_
  refine n_iconst hC (0 : Int32) (by decide) dX5_part_1 ?_
  refine n_putI hC clX5 h0 0 (by decide) rfl rfl rfl fl_X5_1 dX5_part_2 (fun M1 => ?_)
  refine n_aload_n hC 0 rfl dX5_part_5 ?_
  refine n_iload_n hC 1 rfl dX5_part_6 ?_
  refine n_callVi (As := [.int x1]) (rest := []) h0 rfl (by decide) hC (c_X5_isEntry l M1 a0 x1 h0) my_X5_isEntry ml_X5_81 rfl rfl rfl (Nat.le_of_ble_eq_true rfl) ⟨by decide, by decide⟩ dX5_part_7 (fun r2 M3 => ?_)
  refine n_if_ne hC 16 dX5_part_10 (by decide) ?_ ?_
  · refine n_iload_n hC 2 rfl dX5_part_16 ?_
    refine n_i2l hC dX5_part_17 ?_
    refine n_ldc2 hC (2 : Int64) kc_X5_58 dX5_part_18 ?_
    refine n_ldc2 hC (65535 : Int64) kc_X5_94 dX5_part_21 ?_
    refine n_callSi (As := [.long x2.toInt64, .long (2 : Int64), .long (65535 : Int64)]) (rest := []) hC (c_X5_in l M3 x2.toInt64 (2 : Int64) (65535 : Int64)) my_X5_in ml_X5_13 rfl rfl rfl (Nat.le_of_ble_eq_true rfl) ⟨by decide, by decide⟩ dX5_part_24 (fun r4 M5 => ?_)
    refine n_if_eq hC 43 dX5_part_27 (by decide) ?_ ?_
    · refine n_bipush hC (-3 : Int32) (by decide) dX5_part_43 ?_
      exact n_iret hC dX5_part_45
    refine n_iload hC 4 rfl dX5_part_30 ?_
    refine n_i2l hC dX5_part_32 ?_
    refine n_lconst hC (0 : Int64) (by decide) dX5_part_33 ?_
    refine n_ldc2 hC (8 : Int64) kc_X5_60 dX5_part_34 ?_
    refine n_callSi (As := [.long x5.toInt64, .long (0 : Int64), .long (8 : Int64)]) (rest := []) hC (c_X5_in l M5 x5.toInt64 (0 : Int64) (8 : Int64)) my_X5_in ml_X5_13 rfl rfl rfl (Nat.le_of_ble_eq_true rfl) ⟨by decide, by decide⟩ dX5_part_37 (fun r6 M7 => ?_)
    refine n_if_ne hC 46 dX5_part_40 (by decide) ?_ ?_
    · refine n_aload_n hC 0 rfl dX5_part_46 ?_
      refine n_get hC clX5 h0 10 (.ref (b + (rf a0 10))) (by decide) rfl fl_X5_36 rfl dX5_part_47 ?_
      refine n_iload_n hC 1 rfl dX5_part_50 ?_
      refine n_iald hC (kf_X5_10 h0) dX5_part_51 (fun g8 => ?_)
      refine n_iconst hC (3 : Int32) (by decide) dX5_part_52 ?_
      refine n_icmp_ne hC 59 dX5_part_53 (by decide) ?_ ?_
      · refine n_iconst hC (3 : Int32) (by decide) dX5_part_59 ?_
        refine n_iload_n hC 1 rfl dX5_part_60 ?_
        refine n_imul hC dX5_part_61 ?_
        refine n_aload_n hC 0 rfl dX5_part_62 ?_
        refine n_get hC clX5 h0 10 (.ref (b + (rf a0 10))) (by decide) rfl fl_X5_36 rfl dX5_part_63 ?_
        refine n_iload_n hC 1 rfl dX5_part_66 ?_
        refine n_iald hC (kf_X5_10 h0) dX5_part_67 (fun g9 => ?_)
        refine n_iadd hC dX5_part_68 ?_
        refine n_istB hC (fun v10 => [(6, .int v10), (0, .ref (b + a0)), (1, .int x1), (2, .int x2), (3, .long y3), (5, .int x5)]) (by decide) (fun _ => rfl) dX5_part_69 (fun v10 => ?_)
        refine n_aload_n hC 1 rfl dX5_part_71 ?_
        refine n_get hC clX5 h0 11 (.ref (b + (rf a0 11))) (by decide) rfl fl_X5_96 rfl dX5_part_72 ?_
        refine n_iload hC 0 rfl dX5_part_75 ?_
        refine n_iload_n hC 3 rfl dX5_part_77 ?_
        refine n_iast hC (kf_X5_11 h0) dX5_part_78 (fun M11 => ?_)
        refine n_aload_n hC 1 rfl dX5_part_79 ?_
        refine n_get hC clX5 h0 12 (.ref (b + (rf a0 12))) (by decide) rfl fl_X5_99 rfl dX5_part_80 ?_
        refine n_iload hC 0 rfl dX5_part_83 ?_
        refine n_iload hC 5 rfl dX5_part_85 ?_
        refine n_iast hC (kf_X5_12 h0) dX5_part_87 (fun M12 => ?_)
        refine n_iconst hC (0 : Int32) (by decide) dX5_part_88 ?_
        refine n_istore hC [(7, .int (0 : Int32)), (6, .int v10), (0, .ref (b + a0)), (1, .int x1), (2, .int x2), (3, .long y3), (5, .int x5)] (by decide) rfl dX5_part_89 ?_
        refine GN.sub [2, 3, 5, 6, 1, 0] rfl (b_X5_part_91 hC a0 x1 y3 x5 v10 (0 : Int32) h0 _ (fun v17 M18 => ?_) M12)
        refine n_aload_n hC 0 rfl dX5_part_125 ?_
        refine n_get hC clX5 h0 10 (.ref (b + (rf a0 10))) (by decide) rfl fl_X5_36 rfl dX5_part_126 ?_
        refine n_iload_n hC 1 rfl dX5_part_129 ?_
        refine n_dup2 hC rfl rfl dX5_part_130 ?_
        refine n_iald hC (kf_X5_10 h0) dX5_part_131 (fun g19 => ?_)
        refine n_iconst hC (1 : Int32) (by decide) dX5_part_132 ?_
        refine n_iadd hC dX5_part_133 ?_
        refine n_iast hC (kf_X5_10 h0) dX5_part_134 (fun M20 => ?_)
        refine n_aload_n hC 0 rfl dX5_part_135 ?_
        refine n_get hC clX5 h0 10 (.ref (b + (rf a0 10))) (by decide) rfl fl_X5_36 rfl dX5_part_136 ?_
        refine n_iload_n hC 1 rfl dX5_part_139 ?_
        refine n_iald hC (kf_X5_10 h0) dX5_part_140 (fun g21 => ?_)
        exact n_iret hC dX5_part_141
      refine n_bipush hC (-5 : Int32) (by decide) dX5_part_56 ?_
      exact n_iret hC dX5_part_58
    refine n_bipush hC (-3 : Int32) (by decide) dX5_part_43 ?_
    exact n_iret hC dX5_part_45
  refine n_bipush hC (-2 : Int32) (by decide) dX5_part_13 ?_
  exact n_iret hC dX5_part_15
def f_X5_stamp (M : Me) (a0 : Nat) (x1 : Int32) (x2 : Int32) (x3 : Int32) (x4 : Int32) (x5 : Int32) : Option (Int32 × Me) := bnd (sI M a0 0 (0 : Int32)) (fun M1 => cal (f_X5_isEntry M1 a0 x1) (fun r2 M3 => if r2 = (0 : Int32) then some ((-2 : Int32), M3) else cal (f_X5_in M3 x2.toInt64 (1980 : Int64) (2107 : Int64)) (fun r4 M5 => if r4 = (0 : Int32) then some ((-3 : Int32), M5) else cal (f_X5_in M5 x3.toInt64 (1 : Int64) (12 : Int64)) (fun r6 M7 => if r6 = (0 : Int32) then some ((-3 : Int32), M7) else cal (f_X5_in M7 x4.toInt64 (1 : Int64) (31 : Int64)) (fun r8 M9 => if r8 = (0 : Int32) then some ((-3 : Int32), M9) else cal (f_X5_in M9 x5.toInt64 (0 : Int64) (86399 : Int64)) (fun r10 M11 => if r10 = (0 : Int32) then some ((-3 : Int32), M11) else chk x1 (ln (rf a0 8)) (bnd (sI M11 (rf a0 8) x1.toNatClampNeg ((((512 : Int32) * (x2 - (1980 : Int32))) + ((32 : Int32) * x3)) + x4)) (fun M12 => ch0 (3600 : Int32) (ch0 (60 : Int32) (ch0 (60 : Int32) (ch0 (60 : Int32) (ch0 (2 : Int32) (chk x1 (ln (rf a0 7)) (bnd (sI M12 (rf a0 7) x1.toNatClampNeg ((((2048 : Int32) * (x5 / (3600 : Int32))) + ((32 : Int32) * (iRem (x5 / (60 : Int32)) (60 : Int32)))) + ((iRem x5 (60 : Int32)) / (2 : Int32)))) (fun M13 => some ((1 : Int32), M13))))))))))))))))
set_option maxHeartbeats 4000000 in
set_option maxRecDepth 100000 in
theorem c_X5_stamp (l : Launch) (M : Me) (a0 : Nat) (x1 : Int32) (x2 : Int32) (x3 : Int32) (x4 : Int32) (x5 : Int32) (h0 : kd a0 = 5) : CN l yX5_stamp cX5_stamp 6 (some .int) (k2_rm 2 46) eI (fun b => [.ref (b + a0), .int x1, .int x2, .int x3, .int x4, .int x5]) M (f_X5_stamp M a0 x1 x2 x3 x4 x5) := by
  refine CN.of RX5 (fun b => [(0, .ref (b + a0)), (1, .int x1), (2, .int x2), (3, .int x3), (4, .int x4), (5, .int x5)]) (by decide) rfl (fun b => Nat.le_of_ble_eq_true rfl) (fun b => rfl) ?_
  intro p e s m args below meth c D T b hC
  unfold f_X5_stamp
  refine n_aload_n hC 0 rfl dX5_stamp_0 ?_
  refine n_iconst hC (0 : Int32) (by decide) dX5_stamp_1 ?_
  refine n_putI hC clX5 h0 0 (by decide) rfl rfl rfl fl_X5_1 dX5_stamp_2 (fun M1 => ?_)
  refine n_aload_n hC 0 rfl dX5_stamp_5 ?_
  refine n_iload_n hC 1 rfl dX5_stamp_6 ?_
  refine n_callVi (As := [.int x1]) (rest := []) h0 rfl (by decide) hC (c_X5_isEntry l M1 a0 x1 h0) my_X5_isEntry ml_X5_81 rfl rfl rfl (Nat.le_of_ble_eq_true rfl) ⟨by decide, by decide⟩ dX5_stamp_7 (fun r2 M3 => ?_)
  refine n_if_ne hC 16 dX5_stamp_10 (by decide) ?_ ?_
  · refine n_iload_n hC 2 rfl dX5_stamp_16 ?_
    refine n_i2l hC dX5_stamp_17 ?_
    refine n_ldc2 hC (1980 : Int64) kc_X5_105 dX5_stamp_18 ?_
    refine n_ldc2 hC (2107 : Int64) kc_X5_107 dX5_stamp_21 ?_
    refine n_callSi (As := [.long x2.toInt64, .long (1980 : Int64), .long (2107 : Int64)]) (rest := []) hC (c_X5_in l M3 x2.toInt64 (1980 : Int64) (2107 : Int64)) my_X5_in ml_X5_13 rfl rfl rfl (Nat.le_of_ble_eq_true rfl) ⟨by decide, by decide⟩ dX5_stamp_24 (fun r4 M5 => ?_)
    refine n_if_eq hC 68 dX5_stamp_27 (by decide) ?_ ?_
    · refine n_bipush hC (-3 : Int32) (by decide) dX5_stamp_68 ?_
      exact n_iret hC dX5_stamp_70
    refine n_iload_n hC 3 rfl dX5_stamp_30 ?_
    refine n_i2l hC dX5_stamp_31 ?_
    refine n_lconst hC (1 : Int64) (by decide) dX5_stamp_32 ?_
    refine n_ldc2 hC (12 : Int64) kc_X5_109 dX5_stamp_33 ?_
    refine n_callSi (As := [.long x3.toInt64, .long (1 : Int64), .long (12 : Int64)]) (rest := []) hC (c_X5_in l M5 x3.toInt64 (1 : Int64) (12 : Int64)) my_X5_in ml_X5_13 rfl rfl rfl (Nat.le_of_ble_eq_true rfl) ⟨by decide, by decide⟩ dX5_stamp_36 (fun r6 M7 => ?_)
    refine n_if_eq hC 68 dX5_stamp_39 (by decide) ?_ ?_
    · refine n_bipush hC (-3 : Int32) (by decide) dX5_stamp_68 ?_
      exact n_iret hC dX5_stamp_70
    refine n_iload hC 4 rfl dX5_stamp_42 ?_
    refine n_i2l hC dX5_stamp_44 ?_
    refine n_lconst hC (1 : Int64) (by decide) dX5_stamp_45 ?_
    refine n_ldc2 hC (31 : Int64) kc_X5_111 dX5_stamp_46 ?_
    refine n_callSi (As := [.long x4.toInt64, .long (1 : Int64), .long (31 : Int64)]) (rest := []) hC (c_X5_in l M7 x4.toInt64 (1 : Int64) (31 : Int64)) my_X5_in ml_X5_13 rfl rfl rfl (Nat.le_of_ble_eq_true rfl) ⟨by decide, by decide⟩ dX5_stamp_49 (fun r8 M9 => ?_)
    refine n_if_eq hC 68 dX5_stamp_52 (by decide) ?_ ?_
    · refine n_bipush hC (-3 : Int32) (by decide) dX5_stamp_68 ?_
      exact n_iret hC dX5_stamp_70
    refine n_iload hC 5 rfl dX5_stamp_55 ?_
    refine n_i2l hC dX5_stamp_57 ?_
    refine n_lconst hC (0 : Int64) (by decide) dX5_stamp_58 ?_
    refine n_ldc2 hC (86399 : Int64) kc_X5_113 dX5_stamp_59 ?_
    refine n_callSi (As := [.long x5.toInt64, .long (0 : Int64), .long (86399 : Int64)]) (rest := []) hC (c_X5_in l M9 x5.toInt64 (0 : Int64) (86399 : Int64)) my_X5_in ml_X5_13 rfl rfl rfl (Nat.le_of_ble_eq_true rfl) ⟨by decide, by decide⟩ dX5_stamp_62 (fun r10 M11 => ?_)
    refine n_if_ne hC 71 dX5_stamp_65 (by decide) ?_ ?_
    · refine n_aload_n hC 0 rfl dX5_stamp_71 ?_
      refine n_get hC clX5 h0 8 (.ref (b + (rf a0 8))) (by decide) rfl fl_X5_30 rfl dX5_stamp_72 ?_
      refine n_iload_n hC 1 rfl dX5_stamp_75 ?_
      refine n_sipush hC (512 : Int32) (by decide) dX5_stamp_76 ?_
      refine n_iload_n hC 2 rfl dX5_stamp_79 ?_
      refine n_sipush hC (1980 : Int32) (by decide) dX5_stamp_80 ?_
      refine n_isub hC dX5_stamp_83 ?_
      refine n_imul hC dX5_stamp_84 ?_
      refine n_bipush hC (32 : Int32) (by decide) dX5_stamp_85 ?_
      refine n_iload_n hC 3 rfl dX5_stamp_87 ?_
      refine n_imul hC dX5_stamp_88 ?_
      refine n_iadd hC dX5_stamp_89 ?_
      refine n_iload hC 4 rfl dX5_stamp_90 ?_
      refine n_iadd hC dX5_stamp_92 ?_
      refine n_iast hC (kf_X5_8 h0) dX5_stamp_93 (fun M12 => ?_)
      refine n_aload_n hC 0 rfl dX5_stamp_94 ?_
      refine n_get hC clX5 h0 7 (.ref (b + (rf a0 7))) (by decide) rfl fl_X5_27 rfl dX5_stamp_95 ?_
      refine n_iload_n hC 1 rfl dX5_stamp_98 ?_
      refine n_sipush hC (2048 : Int32) (by decide) dX5_stamp_99 ?_
      refine n_iload hC 5 rfl dX5_stamp_102 ?_
      refine n_sipush hC (3600 : Int32) (by decide) dX5_stamp_104 ?_
      refine n_idiv hC dX5_stamp_107 ?_
      refine n_imul hC dX5_stamp_108 ?_
      refine n_bipush hC (32 : Int32) (by decide) dX5_stamp_109 ?_
      refine n_iload hC 5 rfl dX5_stamp_111 ?_
      refine n_bipush hC (60 : Int32) (by decide) dX5_stamp_113 ?_
      refine n_idiv hC dX5_stamp_115 ?_
      refine n_bipush hC (60 : Int32) (by decide) dX5_stamp_116 ?_
      refine n_irem hC dX5_stamp_118 ?_
      refine n_imul hC dX5_stamp_119 ?_
      refine n_iadd hC dX5_stamp_120 ?_
      refine n_iload hC 5 rfl dX5_stamp_121 ?_
      refine n_bipush hC (60 : Int32) (by decide) dX5_stamp_123 ?_
      refine n_irem hC dX5_stamp_125 ?_
      refine n_iconst hC (2 : Int32) (by decide) dX5_stamp_126 ?_
      refine n_idiv hC dX5_stamp_127 ?_
      refine n_iadd hC dX5_stamp_128 ?_
      refine n_iast hC (kf_X5_7 h0) dX5_stamp_129 (fun M13 => ?_)
      refine n_iconst hC (1 : Int32) (by decide) dX5_stamp_130 ?_
      exact n_iret hC dX5_stamp_131
    refine n_bipush hC (-3 : Int32) (by decide) dX5_stamp_68 ?_
    exact n_iret hC dX5_stamp_70
  refine n_bipush hC (-2 : Int32) (by decide) dX5_stamp_13 ?_
  exact n_iret hC dX5_stamp_15
def f_X5_attributes (M : Me) (a0 : Nat) (x1 : Int32) (x2 : Int32) : Option (Int32 × Me) := bnd (sI M a0 0 (0 : Int32)) (fun M1 => cal (f_X5_isEntry M1 a0 x1) (fun r2 M3 => if r2 = (0 : Int32) then some ((-2 : Int32), M3) else chk x1 (ln (rf a0 9)) (bnd (sI M3 (rf a0 9) x1.toNatClampNeg x2) (fun M4 => some ((1 : Int32), M4)))))
set_option maxHeartbeats 4000000 in
set_option maxRecDepth 100000 in
theorem c_X5_attributes (l : Launch) (M : Me) (a0 : Nat) (x1 : Int32) (x2 : Int32) (h0 : kd a0 = 5) : CN l yX5_attributes cX5_attributes 3 (some .int) (k2_rm 2 46) eI (fun b => [.ref (b + a0), .int x1, .int x2]) M (f_X5_attributes M a0 x1 x2) := by
  refine CN.of RX5 (fun b => [(0, .ref (b + a0)), (1, .int x1), (2, .int x2)]) (by decide) rfl (fun b => Nat.le_of_ble_eq_true rfl) (fun b => rfl) ?_
  intro p e s m args below meth c D T b hC
  unfold f_X5_attributes
  refine n_aload_n hC 0 rfl dX5_attributes_0 ?_
  refine n_iconst hC (0 : Int32) (by decide) dX5_attributes_1 ?_
  refine n_putI hC clX5 h0 0 (by decide) rfl rfl rfl fl_X5_1 dX5_attributes_2 (fun M1 => ?_)
  refine n_aload_n hC 0 rfl dX5_attributes_5 ?_
  refine n_iload_n hC 1 rfl dX5_attributes_6 ?_
  refine n_callVi (As := [.int x1]) (rest := []) h0 rfl (by decide) hC (c_X5_isEntry l M1 a0 x1 h0) my_X5_isEntry ml_X5_81 rfl rfl rfl (Nat.le_of_ble_eq_true rfl) ⟨by decide, by decide⟩ dX5_attributes_7 (fun r2 M3 => ?_)
  refine n_if_ne hC 16 dX5_attributes_10 (by decide) ?_ ?_
  · refine n_aload_n hC 0 rfl dX5_attributes_16 ?_
    refine n_get hC clX5 h0 9 (.ref (b + (rf a0 9))) (by decide) rfl fl_X5_33 rfl dX5_attributes_17 ?_
    refine n_iload_n hC 1 rfl dX5_attributes_20 ?_
    refine n_iload_n hC 2 rfl dX5_attributes_21 ?_
    refine n_iast hC (kf_X5_9 h0) dX5_attributes_22 (fun M4 => ?_)
    refine n_iconst hC (1 : Int32) (by decide) dX5_attributes_23 ?_
    exact n_iret hC dX5_attributes_24
  refine n_bipush hC (-2 : Int32) (by decide) dX5_attributes_13 ?_
  exact n_iret hC dX5_attributes_15
def f_X5_clear (M : Me) (a0 : Nat) : Option (Int32 × Me) := bnd (sI M a0 0 (0 : Int32)) (fun M1 => bndV (M1.1 a0 2) (fun v2 => bnd (sI M1 a0 2 (0 : Int32)) (fun M3 => some (v2, M3))))
set_option maxHeartbeats 4000000 in
set_option maxRecDepth 100000 in
theorem c_X5_clear (l : Launch) (M : Me) (a0 : Nat) (h0 : kd a0 = 5) : CN l yX5_clear cX5_clear 2 (some .int) (k2_rm 0 0) eI (fun b => [.ref (b + a0)]) M (f_X5_clear M a0) := by
  refine CN.of RX5 (fun b => [(0, .ref (b + a0))]) (by decide) rfl (fun b => Nat.le_of_ble_eq_true rfl) (fun b => rfl) ?_
  intro p e s m args below meth c D T b hC
  unfold f_X5_clear
  refine n_aload_n hC 0 rfl dX5_clear_0 ?_
  refine n_iconst hC (0 : Int32) (by decide) dX5_clear_1 ?_
  refine n_putI hC clX5 h0 0 (by decide) rfl rfl rfl fl_X5_1 dX5_clear_2 (fun M1 => ?_)
  refine n_aload_n hC 0 rfl dX5_clear_5 ?_
  refine n_get hC clX5 h0 2 (.int (M1.1 a0 2)) (by decide) rfl fl_X5_10 rfl dX5_clear_6 ?_
  refine n_istB_n hC rfl (fun v2 => [(1, .int v2), (0, .ref (b + a0))]) (by decide) (fun _ => rfl) dX5_clear_9 (fun v2 => ?_)
  refine n_aload_n hC 1 rfl dX5_clear_10 ?_
  refine n_iconst hC (0 : Int32) (by decide) dX5_clear_11 ?_
  refine n_putI hC clX5 h0 2 (by decide) rfl rfl rfl fl_X5_10 dX5_clear_12 (fun M3 => ?_)
  refine n_iload_n hC 0 rfl dX5_clear_15 ?_
  exact n_iret hC dX5_clear_16
def g_X5_comment_23 (kx : Int32 → Me → Option (Int32 × Me)) (kb : Int32 × Me → Option (Int32 × Me)) (a0 : Nat) (y1 : Int64) (x3 : Int32) (x4 : Int32) (M : Me) : Option (Int32 × Me) := if x3 ≤ x4 then kx x4 M else cal (f_X5_byteOf M y1 x3 x4) (fun r4 M5 => chk x4 (ln (rf a0 21)) (bnd (sI M5 (rf a0 21) x4.toNatClampNeg r4) (fun M6 => bndV (x4 + (1 : Int32)) (fun v7 => kb (v7, M6)))))
set_option maxHeartbeats 4000000 in
set_option maxRecDepth 100000 in
theorem b_X5_comment_23_g {p : Program} {l : Launch} {e : Env} {s : State} {m : MethodId} {args : Array Value} {below : List Frame} {meth : Method} {c : Code} {D : va_G} {T : Nat → ClassId} {b : Nat} (hC : CX p s m args meth c cX5_comment 5 RX5 (some .int) D T) (a0 : Nat) (y1 : Int64) (x3 : Int32) (x4 : Int32) (h0 : kd a0 = 5) (kx : Int32 → Me → Option (Int32 × Me)) (hkx : ∀ (x4 : Int32) (M : Me), GN p l e (k2_rm 1 25) s m args below meth c D T b 5 eI 49 [(0, .ref (b + a0)), (3, .int x3)] [] M (kx x4 M)) (kb : Int32 × Me → Option (Int32 × Me)) (hkb : ∀ z : Int32 × Me, GN p l e (k2_rm 1 25) s m args below meth c D T b 5 eI 23 [(0, .ref (b + a0)), (1, .long y1), (3, .int x3), (4, .int z.1)] [] z.2 (kb z)) (M : Me) : GN p l e (k2_rm 1 25) s m args below meth c D T b 5 eI 23 [(0, .ref (b + a0)), (1, .long y1), (3, .int x3), (4, .int x4)] [] M (g_X5_comment_23 kx kb a0 y1 x3 x4 M) := by
  unfold g_X5_comment_23
  refine n_iload hC 3 rfl dX5_comment_23 ?_
  refine n_iload_n hC 2 rfl dX5_comment_25 ?_
  refine n_icmp_ge hC 49 dX5_comment_26 (by decide) ?_ ?_
  · exact GN.sub [0, 2] rfl (hkx x4 M)
  refine n_aload_n hC 0 rfl dX5_comment_29 ?_
  refine n_get hC clX5 h0 21 (.ref (b + (rf a0 21))) (by decide) rfl fl_X5_115 rfl dX5_comment_30 ?_
  refine n_iload hC 3 rfl dX5_comment_33 ?_
  refine n_lload_n hC 1 rfl dX5_comment_35 ?_
  refine n_iload_n hC 2 rfl dX5_comment_36 ?_
  refine n_iload hC 3 rfl dX5_comment_37 ?_
  refine n_callSi (As := [.long y1, .int x3, .int x4]) (rest := [.int x4, .ref (b + (rf a0 21))]) hC (c_X5_byteOf l M y1 x3 x4) my_X5_byteOf ml_X5_19 rfl rfl rfl (Nat.le_of_ble_eq_true rfl) ⟨by decide, by decide⟩ dX5_comment_39 (fun r4 M5 => ?_)
  refine n_iast hC (kf_X5_21 h0) dX5_comment_42 (fun M6 => ?_)
  refine n_iincB hC (1 : Int32) (by decide) (fun v7 => [(4, .int v7), (0, .ref (b + a0)), (1, .long y1), (3, .int x3)]) 3 rfl (by decide) (fun _ => rfl) dX5_comment_43 (fun v7 => ?_)
  refine n_goto hC (tgt := 23) (by decide) dX5_comment_46 ?_
  exact GN.sub [1, 2, 3, 0] rfl (hkb (v7, M6))
def l_X5_comment_23 (kx : Int32 → Me → Option (Int32 × Me)) (a0 : Nat) (y1 : Int64) (x3 : Int32) (x4 : Int32) (M : Me) : Option (Int32 × Me) := lp (fun kb z => g_X5_comment_23 kx kb a0 y1 x3 z.1 z.2) FU (x4, M)
set_option maxHeartbeats 4000000 in
set_option maxRecDepth 100000 in
theorem b_X5_comment_23 {p : Program} {l : Launch} {e : Env} {s : State} {m : MethodId} {args : Array Value} {below : List Frame} {meth : Method} {c : Code} {D : va_G} {T : Nat → ClassId} {b : Nat} (hC : CX p s m args meth c cX5_comment 5 RX5 (some .int) D T) (a0 : Nat) (y1 : Int64) (x3 : Int32) (x4 : Int32) (h0 : kd a0 = 5) (kx : Int32 → Me → Option (Int32 × Me)) (hkx : ∀ (x4 : Int32) (M : Me), GN p l e (k2_rm 1 25) s m args below meth c D T b 5 eI 49 [(0, .ref (b + a0)), (3, .int x3)] [] M (kx x4 M)) (M : Me) : GN p l e (k2_rm 1 25) s m args below meth c D T b 5 eI 23 [(0, .ref (b + a0)), (1, .long y1), (3, .int x3), (4, .int x4)] [] M (l_X5_comment_23 kx a0 y1 x3 x4 M) := by
  exact n_loop (σ := Int32 × Me) (fun z => [(0, .ref (b + a0)), (1, .long y1), (3, .int x3), (4, .int z.1)]) (fun z => z.2) (fun kb hkb z => b_X5_comment_23_g hC a0 y1 x3 z.1 h0 kx hkx kb hkb z.2) FU (x4, M)
def f_X5_comment (M : Me) (a0 : Nat) (y1 : Int64) (x3 : Int32) : Option (Int32 × Me) := bnd (sI M a0 0 (0 : Int32)) (fun M1 => cal (f_X5_in M1 x3.toInt64 (0 : Int64) (8 : Int64)) (fun r2 M3 => if r2 = (0 : Int32) then some ((-3 : Int32), M3) else l_X5_comment_23 (fun v8 M9 => bnd (sI M9 a0 22 x3) (fun M10 => some ((1 : Int32), M10))) a0 y1 x3 (0 : Int32) M3))
set_option maxHeartbeats 4000000 in
set_option maxRecDepth 100000 in
theorem c_X5_comment (l : Launch) (M : Me) (a0 : Nat) (y1 : Int64) (x3 : Int32) (h0 : kd a0 = 5) : CN l yX5_comment cX5_comment 5 (some .int) (k2_rm 1 25) eI (fun b => [.ref (b + a0), .long y1, .int x3]) M (f_X5_comment M a0 y1 x3) := by
  refine CN.of RX5 (fun b => [(0, .ref (b + a0)), (1, .long y1), (3, .int x3)]) (by decide) rfl (fun b => Nat.le_of_ble_eq_true rfl) (fun b => rfl) ?_
  intro p e s m args below meth c D T b hC
  unfold f_X5_comment
  refine n_aload_n hC 0 rfl dX5_comment_0 ?_
  refine n_iconst hC (0 : Int32) (by decide) dX5_comment_1 ?_
  refine n_putI hC clX5 h0 0 (by decide) rfl rfl rfl fl_X5_1 dX5_comment_2 (fun M1 => ?_)
  refine n_iload_n hC 2 rfl dX5_comment_5 ?_
  refine n_i2l hC dX5_comment_6 ?_
  refine n_lconst hC (0 : Int64) (by decide) dX5_comment_7 ?_
  refine n_ldc2 hC (8 : Int64) kc_X5_60 dX5_comment_8 ?_
  refine n_callSi (As := [.long x3.toInt64, .long (0 : Int64), .long (8 : Int64)]) (rest := []) hC (c_X5_in l M1 x3.toInt64 (0 : Int64) (8 : Int64)) my_X5_in ml_X5_13 rfl rfl rfl (Nat.le_of_ble_eq_true rfl) ⟨by decide, by decide⟩ dX5_comment_11 (fun r2 M3 => ?_)
  refine n_if_ne hC 20 dX5_comment_14 (by decide) ?_ ?_
  · refine n_iconst hC (0 : Int32) (by decide) dX5_comment_20 ?_
    refine n_istore hC [(4, .int (0 : Int32)), (0, .ref (b + a0)), (1, .long y1), (3, .int x3)] (by decide) rfl dX5_comment_21 ?_
    refine GN.sub [1, 2, 3, 0] rfl (b_X5_comment_23 hC a0 y1 x3 (0 : Int32) h0 _ (fun v8 M9 => ?_) M3)
    refine n_aload_n hC 0 rfl dX5_comment_49 ?_
    refine n_iload_n hC 1 rfl dX5_comment_50 ?_
    refine n_putI hC clX5 h0 22 (by decide) rfl rfl rfl fl_X5_118 dX5_comment_51 (fun M10 => ?_)
    refine n_iconst hC (1 : Int32) (by decide) dX5_comment_54 ?_
    exact n_iret hC dX5_comment_55
  refine n_bipush hC (-3 : Int32) (by decide) dX5_comment_17 ?_
  exact n_iret hC dX5_comment_19
def j_X5_sumOf_61 (kx : Int32 → Int32 → Me → Option (Int32 × Me)) (kb : Int32 × Int32 × Me → Option (Int32 × Me)) (a0 : Nat) (x1 : Int32) (x2 : Int32) (x3 : Int32) (x4 : Int32) (s0 : Int32) (M : Me) : Option (Int32 × Me) := bndV (x4 + (1 : Int32)) (fun v6 => kb (s0, v6, M))
set_option maxHeartbeats 4000000 in
set_option maxRecDepth 100000 in
theorem b_X5_sumOf_61 {p : Program} {l : Launch} {e : Env} {s : State} {m : MethodId} {args : Array Value} {below : List Frame} {meth : Method} {c : Code} {D : va_G} {T : Nat → ClassId} {b : Nat} (hC : CX p s m args meth c cX5_sumOf 6 RX5 (some .int) D T) (a0 : Nat) (x1 : Int32) (x2 : Int32) (x3 : Int32) (x4 : Int32) (s0 : Int32) (h0 : kd a0 = 5) (kx : Int32 → Int32 → Me → Option (Int32 × Me)) (hkx : ∀ (x2 : Int32) (x4 : Int32) (M : Me), GN p l e (k2_rm 0 0) s m args below meth c D T b 6 eI 68 [(0, .ref (b + a0)), (1, .int x1), (2, .int x2), (3, .int x3)] [] M (kx x2 x4 M)) (kb : Int32 × Int32 × Me → Option (Int32 × Me)) (hkb : ∀ z : Int32 × Int32 × Me, GN p l e (k2_rm 0 0) s m args below meth c D T b 6 eI 31 [(0, .ref (b + a0)), (1, .int x1), (2, .int z.1), (3, .int x3), (4, .int z.2.1)] [] z.2.2 (kb z)) (M : Me) : GN p l e (k2_rm 0 0) s m args below meth c D T b 6 eI 61 [(0, .ref (b + a0)), (1, .int x1), (2, .int x2), (3, .int x3), (4, .int x4)] [.int s0] M (j_X5_sumOf_61 kx kb a0 x1 x2 x3 x4 s0 M) := by
  unfold j_X5_sumOf_61
  refine n_istore_n hC rfl [(2, .int s0), (0, .ref (b + a0)), (1, .int x1), (3, .int x3), (4, .int x4)] (by decide) rfl dX5_sumOf_61 ?_
  refine n_iincB hC (1 : Int32) (by decide) (fun v6 => [(4, .int v6), (2, .int s0), (0, .ref (b + a0)), (1, .int x1), (3, .int x3)]) 4 rfl (by decide) (fun _ => rfl) dX5_sumOf_62 (fun v6 => ?_)
  refine n_goto hC (tgt := 31) (by decide) dX5_sumOf_65 ?_
  exact GN.sub [2, 3, 1, 4, 0] rfl (hkb (s0, v6, M))
def g_X5_sumOf_31 (kx : Int32 → Int32 → Me → Option (Int32 × Me)) (kb : Int32 × Int32 × Me → Option (Int32 × Me)) (a0 : Nat) (x1 : Int32) (x2 : Int32) (x3 : Int32) (x4 : Int32) (M : Me) : Option (Int32 × Me) := if (8 : Int32) ≤ x4 then kx x2 x4 M else bndV (x2 &&& (1 : Int32)) (fun v4 => bndV (iUshr x2 (1 : Int32)) (fun v5 => if v4 = (1 : Int32) then j_X5_sumOf_61 kx kb a0 x1 v5 x3 x4 (v5 ^^^ (-306674912 : Int32)) M else j_X5_sumOf_61 kx kb a0 x1 v5 x3 x4 v5 M))
set_option maxHeartbeats 4000000 in
set_option maxRecDepth 100000 in
theorem b_X5_sumOf_31_g {p : Program} {l : Launch} {e : Env} {s : State} {m : MethodId} {args : Array Value} {below : List Frame} {meth : Method} {c : Code} {D : va_G} {T : Nat → ClassId} {b : Nat} (hC : CX p s m args meth c cX5_sumOf 6 RX5 (some .int) D T) (a0 : Nat) (x1 : Int32) (x2 : Int32) (x3 : Int32) (x4 : Int32) (h0 : kd a0 = 5) (kx : Int32 → Int32 → Me → Option (Int32 × Me)) (hkx : ∀ (x2 : Int32) (x4 : Int32) (M : Me), GN p l e (k2_rm 0 0) s m args below meth c D T b 6 eI 68 [(0, .ref (b + a0)), (1, .int x1), (2, .int x2), (3, .int x3)] [] M (kx x2 x4 M)) (kb : Int32 × Int32 × Me → Option (Int32 × Me)) (hkb : ∀ z : Int32 × Int32 × Me, GN p l e (k2_rm 0 0) s m args below meth c D T b 6 eI 31 [(0, .ref (b + a0)), (1, .int x1), (2, .int z.1), (3, .int x3), (4, .int z.2.1)] [] z.2.2 (kb z)) (M : Me) : GN p l e (k2_rm 0 0) s m args below meth c D T b 6 eI 31 [(0, .ref (b + a0)), (1, .int x1), (2, .int x2), (3, .int x3), (4, .int x4)] [] M (g_X5_sumOf_31 kx kb a0 x1 x2 x3 x4 M) := by
  unfold g_X5_sumOf_31
  refine n_iload hC 4 rfl dX5_sumOf_31 ?_
  refine n_bipush hC (8 : Int32) (by decide) dX5_sumOf_33 ?_
  refine n_icmp_ge hC 68 dX5_sumOf_35 (by decide) ?_ ?_
  · exact GN.sub [0, 1, 2, 3] rfl (hkx x2 x4 M)
  refine n_iload_n hC 2 rfl dX5_sumOf_38 ?_
  refine n_iconst hC (1 : Int32) (by decide) dX5_sumOf_39 ?_
  refine n_iand hC dX5_sumOf_40 ?_
  refine n_istB hC (fun v4 => [(5, .int v4), (0, .ref (b + a0)), (1, .int x1), (2, .int x2), (3, .int x3), (4, .int x4)]) (by decide) (fun _ => rfl) dX5_sumOf_41 (fun v4 => ?_)
  refine n_iload_n hC 3 rfl dX5_sumOf_43 ?_
  refine n_iconst hC (1 : Int32) (by decide) dX5_sumOf_44 ?_
  refine n_iushr hC dX5_sumOf_45 ?_
  refine n_istB_n hC rfl (fun v5 => [(2, .int v5), (5, .int v4), (0, .ref (b + a0)), (1, .int x1), (3, .int x3), (4, .int x4)]) (by decide) (fun _ => rfl) dX5_sumOf_46 (fun v5 => ?_)
  refine n_iload hC 1 rfl dX5_sumOf_47 ?_
  refine n_iconst hC (1 : Int32) (by decide) dX5_sumOf_49 ?_
  refine n_icmp_ne hC 60 dX5_sumOf_50 (by decide) ?_ ?_
  · refine n_iload_n hC 0 rfl dX5_sumOf_60 ?_
    exact GN.sub [2, 3, 0, 4, 5] rfl (b_X5_sumOf_61 hC a0 x1 v5 x3 x4 v5 h0 kx hkx kb hkb M)
  refine n_iload_n hC 0 rfl dX5_sumOf_53 ?_
  refine n_ldc hC (-306674912 : Int32) kc_X5_121 dX5_sumOf_54 ?_
  refine n_ixor hC dX5_sumOf_56 ?_
  refine n_goto hC (tgt := 61) (by decide) dX5_sumOf_57 ?_
  exact GN.sub [2, 3, 0, 4, 5] rfl (b_X5_sumOf_61 hC a0 x1 v5 x3 x4 (v5 ^^^ (-306674912 : Int32)) h0 kx hkx kb hkb M)
def l_X5_sumOf_31 (kx : Int32 → Int32 → Me → Option (Int32 × Me)) (a0 : Nat) (x1 : Int32) (x2 : Int32) (x3 : Int32) (x4 : Int32) (M : Me) : Option (Int32 × Me) := lp (fun kb z => g_X5_sumOf_31 kx kb a0 x1 z.1 x3 z.2.1 z.2.2) FU (x2, x4, M)
set_option maxHeartbeats 4000000 in
set_option maxRecDepth 100000 in
theorem b_X5_sumOf_31 {p : Program} {l : Launch} {e : Env} {s : State} {m : MethodId} {args : Array Value} {below : List Frame} {meth : Method} {c : Code} {D : va_G} {T : Nat → ClassId} {b : Nat} (hC : CX p s m args meth c cX5_sumOf 6 RX5 (some .int) D T) (a0 : Nat) (x1 : Int32) (x2 : Int32) (x3 : Int32) (x4 : Int32) (h0 : kd a0 = 5) (kx : Int32 → Int32 → Me → Option (Int32 × Me)) (hkx : ∀ (x2 : Int32) (x4 : Int32) (M : Me), GN p l e (k2_rm 0 0) s m args below meth c D T b 6 eI 68 [(0, .ref (b + a0)), (1, .int x1), (2, .int x2), (3, .int x3)] [] M (kx x2 x4 M)) (M : Me) : GN p l e (k2_rm 0 0) s m args below meth c D T b 6 eI 31 [(0, .ref (b + a0)), (1, .int x1), (2, .int x2), (3, .int x3), (4, .int x4)] [] M (l_X5_sumOf_31 kx a0 x1 x2 x3 x4 M) := by
  exact n_loop (σ := Int32 × Int32 × Me) (fun z => [(0, .ref (b + a0)), (1, .int x1), (2, .int z.1), (3, .int x3), (4, .int z.2.1)]) (fun z => z.2.2) (fun kb hkb z => b_X5_sumOf_31_g hC a0 x1 z.1 x3 z.2.1 h0 kx hkx kb hkb z.2.2) FU (x2, x4, M)
def g_X5_sumOf_4 (kx : Int32 → Int32 → Me → Option (Int32 × Me)) (kb : Int32 × Int32 × Me → Option (Int32 × Me)) (a0 : Nat) (x1 : Int32) (x2 : Int32) (x3 : Int32) (M : Me) : Option (Int32 × Me) := chk x1 (ln (rf a0 15)) (if (M.1 (rf a0 15) x1.toNatClampNeg) ≤ x3 then kx x2 x3 M else chk (((40 : Int32) * x1) + x3) (ln (rf a0 16)) (bndV (x2 ^^^ (M.1 (rf a0 16) (((40 : Int32) * x1) + x3).toNatClampNeg)) (fun v3 => l_X5_sumOf_31 (fun v7 v8 M9 => bndV (x3 + (1 : Int32)) (fun v10 => kb (v7, v10, M9))) a0 x1 v3 x3 (0 : Int32) M)))
set_option maxHeartbeats 4000000 in
set_option maxRecDepth 100000 in
theorem b_X5_sumOf_4_g {p : Program} {l : Launch} {e : Env} {s : State} {m : MethodId} {args : Array Value} {below : List Frame} {meth : Method} {c : Code} {D : va_G} {T : Nat → ClassId} {b : Nat} (hC : CX p s m args meth c cX5_sumOf 6 RX5 (some .int) D T) (a0 : Nat) (x1 : Int32) (x2 : Int32) (x3 : Int32) (h0 : kd a0 = 5) (kx : Int32 → Int32 → Me → Option (Int32 × Me)) (hkx : ∀ (x2 : Int32) (x3 : Int32) (M : Me), GN p l e (k2_rm 0 0) s m args below meth c D T b 6 eI 74 [(2, .int x2)] [] M (kx x2 x3 M)) (kb : Int32 × Int32 × Me → Option (Int32 × Me)) (hkb : ∀ z : Int32 × Int32 × Me, GN p l e (k2_rm 0 0) s m args below meth c D T b 6 eI 4 [(0, .ref (b + a0)), (1, .int x1), (2, .int z.1), (3, .int z.2.1)] [] z.2.2 (kb z)) (M : Me) : GN p l e (k2_rm 0 0) s m args below meth c D T b 6 eI 4 [(0, .ref (b + a0)), (1, .int x1), (2, .int x2), (3, .int x3)] [] M (g_X5_sumOf_4 kx kb a0 x1 x2 x3 M) := by
  unfold g_X5_sumOf_4
  refine n_iload_n hC 3 rfl dX5_sumOf_4 ?_
  refine n_aload_n hC 0 rfl dX5_sumOf_5 ?_
  refine n_get hC clX5 h0 15 (.ref (b + (rf a0 15))) (by decide) rfl fl_X5_43 rfl dX5_sumOf_6 ?_
  refine n_iload_n hC 1 rfl dX5_sumOf_9 ?_
  refine n_iald hC (kf_X5_15 h0) dX5_sumOf_10 (fun g1 => ?_)
  refine n_icmp_ge hC 74 dX5_sumOf_11 (by decide) ?_ ?_
  · exact GN.sub [2] rfl (hkx x2 x3 M)
  refine n_iload_n hC 2 rfl dX5_sumOf_14 ?_
  refine n_aload_n hC 0 rfl dX5_sumOf_15 ?_
  refine n_get hC clX5 h0 16 (.ref (b + (rf a0 16))) (by decide) rfl fl_X5_89 rfl dX5_sumOf_16 ?_
  refine n_bipush hC (40 : Int32) (by decide) dX5_sumOf_19 ?_
  refine n_iload_n hC 1 rfl dX5_sumOf_21 ?_
  refine n_imul hC dX5_sumOf_22 ?_
  refine n_iload_n hC 3 rfl dX5_sumOf_23 ?_
  refine n_iadd hC dX5_sumOf_24 ?_
  refine n_iald hC (kf_X5_16 h0) dX5_sumOf_25 (fun g2 => ?_)
  refine n_ixor hC dX5_sumOf_26 ?_
  refine n_istB_n hC rfl (fun v3 => [(2, .int v3), (0, .ref (b + a0)), (1, .int x1), (3, .int x3)]) (by decide) (fun _ => rfl) dX5_sumOf_27 (fun v3 => ?_)
  refine n_iconst hC (0 : Int32) (by decide) dX5_sumOf_28 ?_
  refine n_istore hC [(4, .int (0 : Int32)), (2, .int v3), (0, .ref (b + a0)), (1, .int x1), (3, .int x3)] (by decide) rfl dX5_sumOf_29 ?_
  refine GN.sub [2, 3, 1, 4, 0] rfl (b_X5_sumOf_31 hC a0 x1 v3 x3 (0 : Int32) h0 _ (fun v7 v8 M9 => ?_) M)
  refine n_iincB hC (1 : Int32) (by decide) (fun v10 => [(3, .int v10), (0, .ref (b + a0)), (1, .int x1), (2, .int v7)]) 3 rfl (by decide) (fun _ => rfl) dX5_sumOf_68 (fun v10 => ?_)
  refine n_goto hC (tgt := 4) (by decide) dX5_sumOf_71 ?_
  exact GN.sub [1, 2, 3, 0] rfl (hkb (v7, v10, M9))
def l_X5_sumOf_4 (kx : Int32 → Int32 → Me → Option (Int32 × Me)) (a0 : Nat) (x1 : Int32) (x2 : Int32) (x3 : Int32) (M : Me) : Option (Int32 × Me) := lp (fun kb z => g_X5_sumOf_4 kx kb a0 x1 z.1 z.2.1 z.2.2) FU (x2, x3, M)
set_option maxHeartbeats 4000000 in
set_option maxRecDepth 100000 in
theorem b_X5_sumOf_4 {p : Program} {l : Launch} {e : Env} {s : State} {m : MethodId} {args : Array Value} {below : List Frame} {meth : Method} {c : Code} {D : va_G} {T : Nat → ClassId} {b : Nat} (hC : CX p s m args meth c cX5_sumOf 6 RX5 (some .int) D T) (a0 : Nat) (x1 : Int32) (x2 : Int32) (x3 : Int32) (h0 : kd a0 = 5) (kx : Int32 → Int32 → Me → Option (Int32 × Me)) (hkx : ∀ (x2 : Int32) (x3 : Int32) (M : Me), GN p l e (k2_rm 0 0) s m args below meth c D T b 6 eI 74 [(2, .int x2)] [] M (kx x2 x3 M)) (M : Me) : GN p l e (k2_rm 0 0) s m args below meth c D T b 6 eI 4 [(0, .ref (b + a0)), (1, .int x1), (2, .int x2), (3, .int x3)] [] M (l_X5_sumOf_4 kx a0 x1 x2 x3 M) := by
  exact n_loop (σ := Int32 × Int32 × Me) (fun z => [(0, .ref (b + a0)), (1, .int x1), (2, .int z.1), (3, .int z.2.1)]) (fun z => z.2.2) (fun kb hkb z => b_X5_sumOf_4_g hC a0 x1 z.1 z.2.1 h0 kx hkx kb hkb z.2.2) FU (x2, x3, M)
def f_X5_sumOf (M : Me) (a0 : Nat) (x1 : Int32) : Option (Int32 × Me) := l_X5_sumOf_4 (fun v11 v12 M13 => some ((v11 ^^^ (-1 : Int32)), M13)) a0 x1 (-1 : Int32) (0 : Int32) M
set_option maxHeartbeats 4000000 in
set_option maxRecDepth 100000 in
theorem c_X5_sumOf (l : Launch) (M : Me) (a0 : Nat) (x1 : Int32) (h0 : kd a0 = 5) : CN l yX5_sumOf cX5_sumOf 6 (some .int) (k2_rm 0 0) eI (fun b => [.ref (b + a0), .int x1]) M (f_X5_sumOf M a0 x1) := by
  refine CN.of RX5 (fun b => [(0, .ref (b + a0)), (1, .int x1)]) (by decide) rfl (fun b => Nat.le_of_ble_eq_true rfl) (fun b => rfl) ?_
  intro p e s m args below meth c D T b hC
  unfold f_X5_sumOf
  refine n_iconst hC (-1 : Int32) (by decide) dX5_sumOf_0 ?_
  refine n_istore_n hC rfl [(2, .int (-1 : Int32)), (0, .ref (b + a0)), (1, .int x1)] (by decide) rfl dX5_sumOf_1 ?_
  refine n_iconst hC (0 : Int32) (by decide) dX5_sumOf_2 ?_
  refine n_istore_n hC rfl [(3, .int (0 : Int32)), (2, .int (-1 : Int32)), (0, .ref (b + a0)), (1, .int x1)] (by decide) rfl dX5_sumOf_3 ?_
  refine GN.sub [2, 3, 1, 0] rfl (b_X5_sumOf_4 hC a0 x1 (-1 : Int32) (0 : Int32) h0 _ (fun v11 v12 M13 => ?_) M)
  refine n_iload_n hC 0 rfl dX5_sumOf_74 ?_
  refine n_iconst hC (-1 : Int32) (by decide) dX5_sumOf_75 ?_
  refine n_ixor hC dX5_sumOf_76 ?_
  exact n_iret hC dX5_sumOf_77
def j_X5_sum_33 (a0 : Nat) (x1 : Int32) (M : Me) : Option (Int32 × Me) := chk x1 (ln (rf a0 18)) (some ((M.1 (rf a0 18) x1.toNatClampNeg), M))
set_option maxHeartbeats 4000000 in
set_option maxRecDepth 100000 in
theorem b_X5_sum_33 {p : Program} {l : Launch} {e : Env} {s : State} {m : MethodId} {args : Array Value} {below : List Frame} {meth : Method} {c : Code} {D : va_G} {T : Nat → ClassId} {b : Nat} (hC : CX p s m args meth c cX5_sum 2 RX5 (some .int) D T) (a0 : Nat) (x1 : Int32) (h0 : kd a0 = 5) (M : Me) : GN p l e (k2_rm 1 25) s m args below meth c D T b 2 eI 33 [(0, .ref (b + a0)), (1, .int x1)] [] M (j_X5_sum_33 a0 x1 M) := by
  unfold j_X5_sum_33
  refine n_aload_n hC 0 rfl dX5_sum_33 ?_
  refine n_get hC clX5 h0 18 (.ref (b + (rf a0 18))) (by decide) rfl fl_X5_49 rfl dX5_sum_34 ?_
  refine n_iload_n hC 1 rfl dX5_sum_37 ?_
  refine n_iald hC (kf_X5_18 h0) dX5_sum_38 (fun g3 => ?_)
  refine n_goto hC (tgt := 47) (by decide) dX5_sum_39 ?_
  exact n_iret hC dX5_sum_47
def f_X5_sum (M : Me) (a0 : Nat) (x1 : Int32) : Option (Int32 × Me) := chk x1 (ln (rf a0 3)) (if (M.1 (rf a0 3) x1.toNatClampNeg) = (2 : Int32) then some ((0 : Int32), M) else chk x1 (ln (rf a0 3)) (if (M.1 (rf a0 3) x1.toNatClampNeg) = (1 : Int32) then j_X5_sum_33 a0 x1 M else chk x1 (ln (rf a0 19)) (if (M.1 (rf a0 19) x1.toNatClampNeg) = (0 : Int32) then cal (f_X5_sumOf M a0 x1) (fun r5 M6 => some (r5, M6)) else j_X5_sum_33 a0 x1 M)))
set_option maxHeartbeats 4000000 in
set_option maxRecDepth 100000 in
theorem c_X5_sum (l : Launch) (M : Me) (a0 : Nat) (x1 : Int32) (h0 : kd a0 = 5) : CN l yX5_sum cX5_sum 2 (some .int) (k2_rm 1 25) eI (fun b => [.ref (b + a0), .int x1]) M (f_X5_sum M a0 x1) := by
  refine CN.of RX5 (fun b => [(0, .ref (b + a0)), (1, .int x1)]) (by decide) rfl (fun b => Nat.le_of_ble_eq_true rfl) (fun b => rfl) ?_
  intro p e s m args below meth c D T b hC
  unfold f_X5_sum
  refine n_aload_n hC 0 rfl dX5_sum_0 ?_
  refine n_get hC clX5 h0 3 (.ref (b + (rf a0 3))) (by decide) rfl fl_X5_72 rfl dX5_sum_1 ?_
  refine n_iload_n hC 1 rfl dX5_sum_4 ?_
  refine n_iald hC (kf_X5_3 h0) dX5_sum_5 (fun g1 => ?_)
  refine n_iconst hC (2 : Int32) (by decide) dX5_sum_6 ?_
  refine n_icmp_ne hC 14 dX5_sum_7 (by decide) ?_ ?_
  · refine n_aload_n hC 0 rfl dX5_sum_14 ?_
    refine n_get hC clX5 h0 3 (.ref (b + (rf a0 3))) (by decide) rfl fl_X5_72 rfl dX5_sum_15 ?_
    refine n_iload_n hC 1 rfl dX5_sum_18 ?_
    refine n_iald hC (kf_X5_3 h0) dX5_sum_19 (fun g2 => ?_)
    refine n_iconst hC (1 : Int32) (by decide) dX5_sum_20 ?_
    refine n_icmp_eq hC 33 dX5_sum_21 (by decide) ?_ ?_
    · exact GN.sub [0, 1] rfl (b_X5_sum_33 hC a0 x1 h0 M)
    refine n_aload_n hC 0 rfl dX5_sum_24 ?_
    refine n_get hC clX5 h0 19 (.ref (b + (rf a0 19))) (by decide) rfl fl_X5_52 rfl dX5_sum_25 ?_
    refine n_iload_n hC 1 rfl dX5_sum_28 ?_
    refine n_zald hC (kf_X5_19 h0) dX5_sum_29 (fun g4 => ?_)
    refine n_if_eq hC 42 dX5_sum_30 (by decide) ?_ ?_
    · refine n_aload_n hC 0 rfl dX5_sum_42 ?_
      refine n_iload_n hC 1 rfl dX5_sum_43 ?_
      refine n_callVi (As := [.int x1]) (rest := []) h0 rfl (by decide) hC (c_X5_sumOf l M a0 x1 h0) my_X5_sumOf ml_X5_122 rfl rfl rfl (Nat.le_of_ble_eq_true rfl) ⟨by decide, by decide⟩ dX5_sum_44 (fun r5 M6 => ?_)
      exact n_iret hC dX5_sum_47
    exact GN.sub [0, 1] rfl (b_X5_sum_33 hC a0 x1 h0 M)
  refine n_iconst hC (0 : Int32) (by decide) dX5_sum_10 ?_
  refine n_goto hC (tgt := 47) (by decide) dX5_sum_11 ?_
  exact n_iret hC dX5_sum_47
def f_X5_trueSize (M : Me) (a0 : Nat) (x1 : Int32) : Option (Int32 × Me) := chk x1 (ln (rf a0 3)) (if (M.1 (rf a0 3) x1.toNatClampNeg) = (2 : Int32) then some ((0 : Int32), M) else chk x1 (ln (rf a0 3)) (if (M.1 (rf a0 3) x1.toNatClampNeg) = (1 : Int32) then chk x1 (ln (rf a0 17)) (some ((M.1 (rf a0 17) x1.toNatClampNeg), M)) else chk x1 (ln (rf a0 15)) (some ((M.1 (rf a0 15) x1.toNatClampNeg), M))))
set_option maxHeartbeats 4000000 in
set_option maxRecDepth 100000 in
theorem c_X5_trueSize (l : Launch) (M : Me) (a0 : Nat) (x1 : Int32) (h0 : kd a0 = 5) : CN l yX5_trueSize cX5_trueSize 2 (some .int) (k2_rm 0 0) eI (fun b => [.ref (b + a0), .int x1]) M (f_X5_trueSize M a0 x1) := by
  refine CN.of RX5 (fun b => [(0, .ref (b + a0)), (1, .int x1)]) (by decide) rfl (fun b => Nat.le_of_ble_eq_true rfl) (fun b => rfl) ?_
  intro p e s m args below meth c D T b hC
  unfold f_X5_trueSize
  refine n_aload_n hC 0 rfl dX5_trueSize_0 ?_
  refine n_get hC clX5 h0 3 (.ref (b + (rf a0 3))) (by decide) rfl fl_X5_72 rfl dX5_trueSize_1 ?_
  refine n_iload_n hC 1 rfl dX5_trueSize_4 ?_
  refine n_iald hC (kf_X5_3 h0) dX5_trueSize_5 (fun g1 => ?_)
  refine n_iconst hC (2 : Int32) (by decide) dX5_trueSize_6 ?_
  refine n_icmp_ne hC 14 dX5_trueSize_7 (by decide) ?_ ?_
  · refine n_aload_n hC 0 rfl dX5_trueSize_14 ?_
    refine n_get hC clX5 h0 3 (.ref (b + (rf a0 3))) (by decide) rfl fl_X5_72 rfl dX5_trueSize_15 ?_
    refine n_iload_n hC 1 rfl dX5_trueSize_18 ?_
    refine n_iald hC (kf_X5_3 h0) dX5_trueSize_19 (fun g2 => ?_)
    refine n_iconst hC (1 : Int32) (by decide) dX5_trueSize_20 ?_
    refine n_icmp_ne hC 33 dX5_trueSize_21 (by decide) ?_ ?_
    · refine n_aload_n hC 0 rfl dX5_trueSize_33 ?_
      refine n_get hC clX5 h0 15 (.ref (b + (rf a0 15))) (by decide) rfl fl_X5_43 rfl dX5_trueSize_34 ?_
      refine n_iload_n hC 1 rfl dX5_trueSize_37 ?_
      refine n_iald hC (kf_X5_15 h0) dX5_trueSize_38 (fun g3 => ?_)
      exact n_iret hC dX5_trueSize_39
    refine n_aload_n hC 0 rfl dX5_trueSize_24 ?_
    refine n_get hC clX5 h0 17 (.ref (b + (rf a0 17))) (by decide) rfl fl_X5_46 rfl dX5_trueSize_25 ?_
    refine n_iload_n hC 1 rfl dX5_trueSize_28 ?_
    refine n_iald hC (kf_X5_17 h0) dX5_trueSize_29 (fun g4 => ?_)
    refine n_goto hC (tgt := 39) (by decide) dX5_trueSize_30 ?_
    exact n_iret hC dX5_trueSize_39
  refine n_iconst hC (0 : Int32) (by decide) dX5_trueSize_10 ?_
  refine n_goto hC (tgt := 39) (by decide) dX5_trueSize_11 ?_
  exact n_iret hC dX5_trueSize_39
def j_X5_put_40 (kx : Int32 → Me → Option (Unit × Me)) (kb : Int32 × Me → Option (Unit × Me)) (a0 : Nat) (y1 : Int64) (x3 : Int32) (x4 : Int32) (M : Me) : Option (Unit × Me) := bnd (sI M a0 25 ((M.1 a0 25) + (1 : Int32))) (fun M1 => bndV (x4 + (1 : Int32)) (fun v2 => kb (v2, M1)))
set_option maxHeartbeats 4000000 in
set_option maxRecDepth 100000 in
theorem b_X5_put_40 {p : Program} {l : Launch} {e : Env} {s : State} {m : MethodId} {args : Array Value} {below : List Frame} {meth : Method} {c : Code} {D : va_G} {T : Nat → ClassId} {b : Nat} (hC : CX p s m args meth c cX5_put 5 RX5 none D T) (a0 : Nat) (y1 : Int64) (x3 : Int32) (x4 : Int32) (h0 : kd a0 = 5) (kx : Int32 → Me → Option (Unit × Me)) (hkx : ∀ (x4 : Int32) (M : Me), GN p l e (k2_rm 0 0) s m args below meth c D T b 5 eV 56 [] [] M (kx x4 M)) (kb : Int32 × Me → Option (Unit × Me)) (hkb : ∀ z : Int32 × Me, GN p l e (k2_rm 0 0) s m args below meth c D T b 5 eV 3 [(0, .ref (b + a0)), (1, .long y1), (3, .int x3), (4, .int z.1)] [] z.2 (kb z)) (M : Me) : GN p l e (k2_rm 0 0) s m args below meth c D T b 5 eV 40 [(0, .ref (b + a0)), (1, .long y1), (3, .int x3), (4, .int x4)] [] M (j_X5_put_40 kx kb a0 y1 x3 x4 M) := by
  unfold j_X5_put_40
  refine n_aload_n hC 0 rfl dX5_put_40 ?_
  refine n_dup hC rfl dX5_put_41 ?_
  refine n_get hC clX5 h0 25 (.int (M.1 a0 25)) (by decide) rfl fl_X5_125 rfl dX5_put_42 ?_
  refine n_iconst hC (1 : Int32) (by decide) dX5_put_45 ?_
  refine n_iadd hC dX5_put_46 ?_
  refine n_putI hC clX5 h0 25 (by decide) rfl rfl rfl fl_X5_125 dX5_put_47 (fun M1 => ?_)
  refine n_iincB hC (1 : Int32) (by decide) (fun v2 => [(4, .int v2), (0, .ref (b + a0)), (1, .long y1), (3, .int x3)]) 3 rfl (by decide) (fun _ => rfl) dX5_put_50 (fun v2 => ?_)
  refine n_goto hC (tgt := 3) (by decide) dX5_put_53 ?_
  exact GN.sub [1, 2, 3, 0] rfl (hkb (v2, M1))
def g_X5_put_3 (kx : Int32 → Me → Option (Unit × Me)) (kb : Int32 × Me → Option (Unit × Me)) (a0 : Nat) (y1 : Int64) (x3 : Int32) (x4 : Int32) (M : Me) : Option (Unit × Me) := if x3 ≤ x4 then kx x4 M else if (2000 : Int32) ≤ (M.1 a0 25) then j_X5_put_40 kx kb a0 y1 x3 x4 M else chk (M.1 a0 25) (ln (rf a0 23)) (bnd (sI M (rf a0 23) (M.1 a0 25).toNatClampNeg (((lShr y1 ((8 : Int32) * x4)) &&& (255 : Int64)).toInt32)) (fun M3 => j_X5_put_40 kx kb a0 y1 x3 x4 M3))
set_option maxHeartbeats 4000000 in
set_option maxRecDepth 100000 in
theorem b_X5_put_3_g {p : Program} {l : Launch} {e : Env} {s : State} {m : MethodId} {args : Array Value} {below : List Frame} {meth : Method} {c : Code} {D : va_G} {T : Nat → ClassId} {b : Nat} (hC : CX p s m args meth c cX5_put 5 RX5 none D T) (a0 : Nat) (y1 : Int64) (x3 : Int32) (x4 : Int32) (h0 : kd a0 = 5) (kx : Int32 → Me → Option (Unit × Me)) (hkx : ∀ (x4 : Int32) (M : Me), GN p l e (k2_rm 0 0) s m args below meth c D T b 5 eV 56 [] [] M (kx x4 M)) (kb : Int32 × Me → Option (Unit × Me)) (hkb : ∀ z : Int32 × Me, GN p l e (k2_rm 0 0) s m args below meth c D T b 5 eV 3 [(0, .ref (b + a0)), (1, .long y1), (3, .int x3), (4, .int z.1)] [] z.2 (kb z)) (M : Me) : GN p l e (k2_rm 0 0) s m args below meth c D T b 5 eV 3 [(0, .ref (b + a0)), (1, .long y1), (3, .int x3), (4, .int x4)] [] M (g_X5_put_3 kx kb a0 y1 x3 x4 M) := by
  unfold g_X5_put_3
  refine n_iload hC 3 rfl dX5_put_3 ?_
  refine n_iload_n hC 2 rfl dX5_put_5 ?_
  refine n_icmp_ge hC 56 dX5_put_6 (by decide) ?_ ?_
  · exact GN.sub [] rfl (hkx x4 M)
  refine n_aload_n hC 0 rfl dX5_put_9 ?_
  refine n_get hC clX5 h0 25 (.int (M.1 a0 25)) (by decide) rfl fl_X5_125 rfl dX5_put_10 ?_
  refine n_sipush hC (2000 : Int32) (by decide) dX5_put_13 ?_
  refine n_icmp_ge hC 40 dX5_put_16 (by decide) ?_ ?_
  · exact GN.sub [0, 1, 2, 3] rfl (b_X5_put_40 hC a0 y1 x3 x4 h0 kx hkx kb hkb M)
  refine n_aload_n hC 0 rfl dX5_put_19 ?_
  refine n_get hC clX5 h0 23 (.ref (b + (rf a0 23))) (by decide) rfl fl_X5_128 rfl dX5_put_20 ?_
  refine n_aload_n hC 0 rfl dX5_put_23 ?_
  refine n_get hC clX5 h0 25 (.int (M.1 a0 25)) (by decide) rfl fl_X5_125 rfl dX5_put_24 ?_
  refine n_lload_n hC 1 rfl dX5_put_27 ?_
  refine n_bipush hC (8 : Int32) (by decide) dX5_put_28 ?_
  refine n_iload hC 3 rfl dX5_put_30 ?_
  refine n_imul hC dX5_put_32 ?_
  refine n_lshr hC dX5_put_33 ?_
  refine n_ldc2 hC (255 : Int64) kc_X5_17 dX5_put_34 ?_
  refine n_land hC dX5_put_37 ?_
  refine n_l2i hC dX5_put_38 ?_
  refine n_iast hC (kf_X5_23 h0) dX5_put_39 (fun M3 => ?_)
  exact GN.sub [0, 1, 2, 3] rfl (b_X5_put_40 hC a0 y1 x3 x4 h0 kx hkx kb hkb M3)
def l_X5_put_3 (kx : Int32 → Me → Option (Unit × Me)) (a0 : Nat) (y1 : Int64) (x3 : Int32) (x4 : Int32) (M : Me) : Option (Unit × Me) := lp (fun kb z => g_X5_put_3 kx kb a0 y1 x3 z.1 z.2) FU (x4, M)
set_option maxHeartbeats 4000000 in
set_option maxRecDepth 100000 in
theorem b_X5_put_3 {p : Program} {l : Launch} {e : Env} {s : State} {m : MethodId} {args : Array Value} {below : List Frame} {meth : Method} {c : Code} {D : va_G} {T : Nat → ClassId} {b : Nat} (hC : CX p s m args meth c cX5_put 5 RX5 none D T) (a0 : Nat) (y1 : Int64) (x3 : Int32) (x4 : Int32) (h0 : kd a0 = 5) (kx : Int32 → Me → Option (Unit × Me)) (hkx : ∀ (x4 : Int32) (M : Me), GN p l e (k2_rm 0 0) s m args below meth c D T b 5 eV 56 [] [] M (kx x4 M)) (M : Me) : GN p l e (k2_rm 0 0) s m args below meth c D T b 5 eV 3 [(0, .ref (b + a0)), (1, .long y1), (3, .int x3), (4, .int x4)] [] M (l_X5_put_3 kx a0 y1 x3 x4 M) := by
  exact n_loop (σ := Int32 × Me) (fun z => [(0, .ref (b + a0)), (1, .long y1), (3, .int x3), (4, .int z.1)]) (fun z => z.2) (fun kb hkb z => b_X5_put_3_g hC a0 y1 x3 z.1 h0 kx hkx kb hkb z.2) FU (x4, M)
def f_X5_put (M : Me) (a0 : Nat) (y1 : Int64) (x3 : Int32) : Option (Unit × Me) := l_X5_put_3 (fun v4 M5 => some ((), M5)) a0 y1 x3 (0 : Int32) M
set_option maxHeartbeats 4000000 in
set_option maxRecDepth 100000 in
theorem c_X5_put (l : Launch) (M : Me) (a0 : Nat) (y1 : Int64) (x3 : Int32) (h0 : kd a0 = 5) : CN l yX5_put cX5_put 5 none (k2_rm 0 0) eV (fun b => [.ref (b + a0), .long y1, .int x3]) M (f_X5_put M a0 y1 x3) := by
  refine CN.of RX5 (fun b => [(0, .ref (b + a0)), (1, .long y1), (3, .int x3)]) (by decide) rfl (fun b => Nat.le_of_ble_eq_true rfl) (fun b => rfl) ?_
  intro p e s m args below meth c D T b hC
  unfold f_X5_put
  refine n_iconst hC (0 : Int32) (by decide) dX5_put_0 ?_
  refine n_istore hC [(4, .int (0 : Int32)), (0, .ref (b + a0)), (1, .long y1), (3, .int x3)] (by decide) rfl dX5_put_1 ?_
  refine GN.sub [1, 2, 3, 0] rfl (b_X5_put_3 hC a0 y1 x3 (0 : Int32) h0 _ (fun v4 M5 => ?_) M)
  exact n_vret hC dX5_put_56
def g_X5_extraLong_19 (kx : Int32 → Int32 → Me → Option (Int32 × Me)) (kb : Int32 × Int32 × Me → Option (Int32 × Me)) (a0 : Nat) (x1 : Int32) (x2 : Int32) (x3 : Int32) (M : Me) : Option (Int32 × Me) := chk x1 (ln (rf a0 10)) (if (M.1 (rf a0 10) x1.toNatClampNeg) ≤ x3 then kx x2 x3 M else chk (((3 : Int32) * x1) + x3) (ln (rf a0 12)) (bndV (x2 + ((4 : Int32) + (M.1 (rf a0 12) (((3 : Int32) * x1) + x3).toNatClampNeg))) (fun v4 => bndV (x3 + (1 : Int32)) (fun v5 => kb (v4, v5, M)))))
set_option maxHeartbeats 4000000 in
set_option maxRecDepth 100000 in
theorem b_X5_extraLong_19_g {p : Program} {l : Launch} {e : Env} {s : State} {m : MethodId} {args : Array Value} {below : List Frame} {meth : Method} {c : Code} {D : va_G} {T : Nat → ClassId} {b : Nat} (hC : CX p s m args meth c cX5_extraLong 4 RX5 (some .int) D T) (a0 : Nat) (x1 : Int32) (x2 : Int32) (x3 : Int32) (h0 : kd a0 = 5) (kx : Int32 → Int32 → Me → Option (Int32 × Me)) (hkx : ∀ (x2 : Int32) (x3 : Int32) (M : Me), GN p l e (k2_rm 0 0) s m args below meth c D T b 4 eI 50 [(2, .int x2)] [] M (kx x2 x3 M)) (kb : Int32 × Int32 × Me → Option (Int32 × Me)) (hkb : ∀ z : Int32 × Int32 × Me, GN p l e (k2_rm 0 0) s m args below meth c D T b 4 eI 19 [(0, .ref (b + a0)), (1, .int x1), (2, .int z.1), (3, .int z.2.1)] [] z.2.2 (kb z)) (M : Me) : GN p l e (k2_rm 0 0) s m args below meth c D T b 4 eI 19 [(0, .ref (b + a0)), (1, .int x1), (2, .int x2), (3, .int x3)] [] M (g_X5_extraLong_19 kx kb a0 x1 x2 x3 M) := by
  unfold g_X5_extraLong_19
  refine n_iload_n hC 3 rfl dX5_extraLong_19 ?_
  refine n_aload_n hC 0 rfl dX5_extraLong_20 ?_
  refine n_get hC clX5 h0 10 (.ref (b + (rf a0 10))) (by decide) rfl fl_X5_36 rfl dX5_extraLong_21 ?_
  refine n_iload_n hC 1 rfl dX5_extraLong_24 ?_
  refine n_iald hC (kf_X5_10 h0) dX5_extraLong_25 (fun g2 => ?_)
  refine n_icmp_ge hC 50 dX5_extraLong_26 (by decide) ?_ ?_
  · exact GN.sub [2] rfl (hkx x2 x3 M)
  refine n_iload_n hC 2 rfl dX5_extraLong_29 ?_
  refine n_iconst hC (4 : Int32) (by decide) dX5_extraLong_30 ?_
  refine n_aload_n hC 0 rfl dX5_extraLong_31 ?_
  refine n_get hC clX5 h0 12 (.ref (b + (rf a0 12))) (by decide) rfl fl_X5_99 rfl dX5_extraLong_32 ?_
  refine n_iconst hC (3 : Int32) (by decide) dX5_extraLong_35 ?_
  refine n_iload_n hC 1 rfl dX5_extraLong_36 ?_
  refine n_imul hC dX5_extraLong_37 ?_
  refine n_iload_n hC 3 rfl dX5_extraLong_38 ?_
  refine n_iadd hC dX5_extraLong_39 ?_
  refine n_iald hC (kf_X5_12 h0) dX5_extraLong_40 (fun g3 => ?_)
  refine n_iadd hC dX5_extraLong_41 ?_
  refine n_iadd hC dX5_extraLong_42 ?_
  refine n_istB_n hC rfl (fun v4 => [(2, .int v4), (0, .ref (b + a0)), (1, .int x1), (3, .int x3)]) (by decide) (fun _ => rfl) dX5_extraLong_43 (fun v4 => ?_)
  refine n_iincB hC (1 : Int32) (by decide) (fun v5 => [(3, .int v5), (2, .int v4), (0, .ref (b + a0)), (1, .int x1)]) 3 rfl (by decide) (fun _ => rfl) dX5_extraLong_44 (fun v5 => ?_)
  refine n_goto hC (tgt := 19) (by decide) dX5_extraLong_47 ?_
  exact GN.sub [2, 3, 1, 0] rfl (hkb (v4, v5, M))
def l_X5_extraLong_19 (kx : Int32 → Int32 → Me → Option (Int32 × Me)) (a0 : Nat) (x1 : Int32) (x2 : Int32) (x3 : Int32) (M : Me) : Option (Int32 × Me) := lp (fun kb z => g_X5_extraLong_19 kx kb a0 x1 z.1 z.2.1 z.2.2) FU (x2, x3, M)
set_option maxHeartbeats 4000000 in
set_option maxRecDepth 100000 in
theorem b_X5_extraLong_19 {p : Program} {l : Launch} {e : Env} {s : State} {m : MethodId} {args : Array Value} {below : List Frame} {meth : Method} {c : Code} {D : va_G} {T : Nat → ClassId} {b : Nat} (hC : CX p s m args meth c cX5_extraLong 4 RX5 (some .int) D T) (a0 : Nat) (x1 : Int32) (x2 : Int32) (x3 : Int32) (h0 : kd a0 = 5) (kx : Int32 → Int32 → Me → Option (Int32 × Me)) (hkx : ∀ (x2 : Int32) (x3 : Int32) (M : Me), GN p l e (k2_rm 0 0) s m args below meth c D T b 4 eI 50 [(2, .int x2)] [] M (kx x2 x3 M)) (M : Me) : GN p l e (k2_rm 0 0) s m args below meth c D T b 4 eI 19 [(0, .ref (b + a0)), (1, .int x1), (2, .int x2), (3, .int x3)] [] M (l_X5_extraLong_19 kx a0 x1 x2 x3 M) := by
  exact n_loop (σ := Int32 × Int32 × Me) (fun z => [(0, .ref (b + a0)), (1, .int x1), (2, .int z.1), (3, .int z.2.1)]) (fun z => z.2.2) (fun kb hkb z => b_X5_extraLong_19_g hC a0 x1 z.1 z.2.1 h0 kx hkx kb hkb z.2.2) FU (x2, x3, M)
def j_X5_extraLong_16 (a0 : Nat) (x1 : Int32) (s0 : Int32) (M : Me) : Option (Int32 × Me) := l_X5_extraLong_19 (fun v6 v7 M8 => some (v6, M8)) a0 x1 s0 (0 : Int32) M
set_option maxHeartbeats 4000000 in
set_option maxRecDepth 100000 in
theorem b_X5_extraLong_16 {p : Program} {l : Launch} {e : Env} {s : State} {m : MethodId} {args : Array Value} {below : List Frame} {meth : Method} {c : Code} {D : va_G} {T : Nat → ClassId} {b : Nat} (hC : CX p s m args meth c cX5_extraLong 4 RX5 (some .int) D T) (a0 : Nat) (x1 : Int32) (s0 : Int32) (h0 : kd a0 = 5) (M : Me) : GN p l e (k2_rm 0 0) s m args below meth c D T b 4 eI 16 [(0, .ref (b + a0)), (1, .int x1)] [.int s0] M (j_X5_extraLong_16 a0 x1 s0 M) := by
  unfold j_X5_extraLong_16
  refine n_istore_n hC rfl [(2, .int s0), (0, .ref (b + a0)), (1, .int x1)] (by decide) rfl dX5_extraLong_16 ?_
  refine n_iconst hC (0 : Int32) (by decide) dX5_extraLong_17 ?_
  refine n_istore_n hC rfl [(3, .int (0 : Int32)), (2, .int s0), (0, .ref (b + a0)), (1, .int x1)] (by decide) rfl dX5_extraLong_18 ?_
  refine GN.sub [2, 3, 1, 0] rfl (b_X5_extraLong_19 hC a0 x1 s0 (0 : Int32) h0 _ (fun v6 v7 M8 => ?_) M)
  refine n_iload_n hC 0 rfl dX5_extraLong_50 ?_
  exact n_iret hC dX5_extraLong_51
def f_X5_extraLong (M : Me) (a0 : Nat) (x1 : Int32) : Option (Int32 × Me) := chk x1 (ln (rf a0 4)) (if (M.1 (rf a0 4) x1.toNatClampNeg) = (2 : Int32) then j_X5_extraLong_16 a0 x1 (20 : Int32) M else j_X5_extraLong_16 a0 x1 (0 : Int32) M)
set_option maxHeartbeats 4000000 in
set_option maxRecDepth 100000 in
theorem c_X5_extraLong (l : Launch) (M : Me) (a0 : Nat) (x1 : Int32) (h0 : kd a0 = 5) : CN l yX5_extraLong cX5_extraLong 4 (some .int) (k2_rm 0 0) eI (fun b => [.ref (b + a0), .int x1]) M (f_X5_extraLong M a0 x1) := by
  refine CN.of RX5 (fun b => [(0, .ref (b + a0)), (1, .int x1)]) (by decide) rfl (fun b => Nat.le_of_ble_eq_true rfl) (fun b => rfl) ?_
  intro p e s m args below meth c D T b hC
  unfold f_X5_extraLong
  refine n_aload_n hC 0 rfl dX5_extraLong_0 ?_
  refine n_get hC clX5 h0 4 (.ref (b + (rf a0 4))) (by decide) rfl fl_X5_75 rfl dX5_extraLong_1 ?_
  refine n_iload_n hC 1 rfl dX5_extraLong_4 ?_
  refine n_iald hC (kf_X5_4 h0) dX5_extraLong_5 (fun g1 => ?_)
  refine n_iconst hC (2 : Int32) (by decide) dX5_extraLong_6 ?_
  refine n_icmp_ne hC 15 dX5_extraLong_7 (by decide) ?_ ?_
  · refine n_iconst hC (0 : Int32) (by decide) dX5_extraLong_15 ?_
    exact GN.sub [0, 1] rfl (b_X5_extraLong_16 hC a0 x1 (0 : Int32) h0 M)
  refine n_bipush hC (20 : Int32) (by decide) dX5_extraLong_10 ?_
  refine n_goto hC (tgt := 16) (by decide) dX5_extraLong_12 ?_
  exact GN.sub [0, 1] rfl (b_X5_extraLong_16 hC a0 x1 (20 : Int32) h0 M)
def g_X5_putName_2 (kx : Int32 → Me → Option (Unit × Me)) (kb : Int32 × Me → Option (Unit × Me)) (a0 : Nat) (x1 : Int32) (x2 : Int32) (M : Me) : Option (Unit × Me) := chk x1 (ln (rf a0 6)) (if (M.1 (rf a0 6) x1.toNatClampNeg) ≤ x2 then kx x2 M else chk (((16 : Int32) * x1) + x2) (ln (rf a0 5)) (cal (f_X5_put M a0 (((M.1 (rf a0 5) (((16 : Int32) * x1) + x2).toNatClampNeg)).toInt64) (1 : Int32)) (fun _ M4 => bndV (x2 + (1 : Int32)) (fun v5 => kb (v5, M4)))))
set_option maxHeartbeats 4000000 in
set_option maxRecDepth 100000 in
theorem b_X5_putName_2_g {p : Program} {l : Launch} {e : Env} {s : State} {m : MethodId} {args : Array Value} {below : List Frame} {meth : Method} {c : Code} {D : va_G} {T : Nat → ClassId} {b : Nat} (hC : CX p s m args meth c cX5_putName 4 RX5 none D T) (a0 : Nat) (x1 : Int32) (x2 : Int32) (h0 : kd a0 = 5) (kx : Int32 → Me → Option (Unit × Me)) (hkx : ∀ (x2 : Int32) (M : Me), GN p l e (k2_rm 1 24) s m args below meth c D T b 4 eV 35 [(0, .ref (b + a0)), (1, .int x1)] [] M (kx x2 M)) (kb : Int32 × Me → Option (Unit × Me)) (hkb : ∀ z : Int32 × Me, GN p l e (k2_rm 1 24) s m args below meth c D T b 4 eV 2 [(0, .ref (b + a0)), (1, .int x1), (2, .int z.1)] [] z.2 (kb z)) (M : Me) : GN p l e (k2_rm 1 24) s m args below meth c D T b 4 eV 2 [(0, .ref (b + a0)), (1, .int x1), (2, .int x2)] [] M (g_X5_putName_2 kx kb a0 x1 x2 M) := by
  unfold g_X5_putName_2
  refine n_iload_n hC 2 rfl dX5_putName_2 ?_
  refine n_aload_n hC 0 rfl dX5_putName_3 ?_
  refine n_get hC clX5 h0 6 (.ref (b + (rf a0 6))) (by decide) rfl fl_X5_23 rfl dX5_putName_4 ?_
  refine n_iload_n hC 1 rfl dX5_putName_7 ?_
  refine n_iald hC (kf_X5_6 h0) dX5_putName_8 (fun g1 => ?_)
  refine n_icmp_ge hC 35 dX5_putName_9 (by decide) ?_ ?_
  · exact GN.sub [0, 1] rfl (hkx x2 M)
  refine n_aload_n hC 0 rfl dX5_putName_12 ?_
  refine n_aload_n hC 0 rfl dX5_putName_13 ?_
  refine n_get hC clX5 h0 5 (.ref (b + (rf a0 5))) (by decide) rfl fl_X5_78 rfl dX5_putName_14 ?_
  refine n_bipush hC (16 : Int32) (by decide) dX5_putName_17 ?_
  refine n_iload_n hC 1 rfl dX5_putName_19 ?_
  refine n_imul hC dX5_putName_20 ?_
  refine n_iload_n hC 2 rfl dX5_putName_21 ?_
  refine n_iadd hC dX5_putName_22 ?_
  refine n_iald hC (kf_X5_5 h0) dX5_putName_23 (fun g2 => ?_)
  refine n_i2l hC dX5_putName_24 ?_
  refine n_iconst hC (1 : Int32) (by decide) dX5_putName_25 ?_
  refine n_callVv (As := [.long ((M.1 (rf a0 5) (((16 : Int32) * x1) + x2).toNatClampNeg)).toInt64, .int (1 : Int32)]) (rest := []) h0 rfl (by decide) hC (c_X5_put l M a0 (((M.1 (rf a0 5) (((16 : Int32) * x1) + x2).toNatClampNeg)).toInt64) (1 : Int32) h0) my_X5_put ml_X5_131 rfl rfl rfl (Nat.le_of_ble_eq_true rfl) ⟨by decide, by decide⟩ dX5_putName_26 (fun r3 M4 => ?_)
  refine n_iincB hC (1 : Int32) (by decide) (fun v5 => [(2, .int v5), (0, .ref (b + a0)), (1, .int x1)]) 2 rfl (by decide) (fun _ => rfl) dX5_putName_29 (fun v5 => ?_)
  refine n_goto hC (tgt := 2) (by decide) dX5_putName_32 ?_
  exact GN.sub [1, 2, 0] rfl (hkb (v5, M4))
def l_X5_putName_2 (kx : Int32 → Me → Option (Unit × Me)) (a0 : Nat) (x1 : Int32) (x2 : Int32) (M : Me) : Option (Unit × Me) := lp (fun kb z => g_X5_putName_2 kx kb a0 x1 z.1 z.2) FU (x2, M)
set_option maxHeartbeats 4000000 in
set_option maxRecDepth 100000 in
theorem b_X5_putName_2 {p : Program} {l : Launch} {e : Env} {s : State} {m : MethodId} {args : Array Value} {below : List Frame} {meth : Method} {c : Code} {D : va_G} {T : Nat → ClassId} {b : Nat} (hC : CX p s m args meth c cX5_putName 4 RX5 none D T) (a0 : Nat) (x1 : Int32) (x2 : Int32) (h0 : kd a0 = 5) (kx : Int32 → Me → Option (Unit × Me)) (hkx : ∀ (x2 : Int32) (M : Me), GN p l e (k2_rm 1 24) s m args below meth c D T b 4 eV 35 [(0, .ref (b + a0)), (1, .int x1)] [] M (kx x2 M)) (M : Me) : GN p l e (k2_rm 1 24) s m args below meth c D T b 4 eV 2 [(0, .ref (b + a0)), (1, .int x1), (2, .int x2)] [] M (l_X5_putName_2 kx a0 x1 x2 M) := by
  exact n_loop (σ := Int32 × Me) (fun z => [(0, .ref (b + a0)), (1, .int x1), (2, .int z.1)]) (fun z => z.2) (fun kb hkb z => b_X5_putName_2_g hC a0 x1 z.1 h0 kx hkx kb hkb z.2) FU (x2, M)
def g_X5_putName_128 (kx : Int32 → Me → Option (Unit × Me)) (kb : Int32 × Me → Option (Unit × Me)) (a0 : Nat) (x1 : Int32) (x2 : Int32) (x3 : Int32) (M : Me) : Option (Unit × Me) := chk x2 (ln (rf a0 12)) (if (M.1 (rf a0 12) x2.toNatClampNeg) ≤ x3 then kx x3 M else chk (((8 : Int32) * x2) + x3) (ln (rf a0 13)) (cal (f_X5_put M a0 (((M.1 (rf a0 13) (((8 : Int32) * x2) + x3).toNatClampNeg)).toInt64) (1 : Int32)) (fun _ M20 => bndV (x3 + (1 : Int32)) (fun v21 => kb (v21, M20)))))
set_option maxHeartbeats 4000000 in
set_option maxRecDepth 100000 in
theorem b_X5_putName_128_g {p : Program} {l : Launch} {e : Env} {s : State} {m : MethodId} {args : Array Value} {below : List Frame} {meth : Method} {c : Code} {D : va_G} {T : Nat → ClassId} {b : Nat} (hC : CX p s m args meth c cX5_putName 4 RX5 none D T) (a0 : Nat) (x1 : Int32) (x2 : Int32) (x3 : Int32) (h0 : kd a0 = 5) (kx : Int32 → Me → Option (Unit × Me)) (hkx : ∀ (x3 : Int32) (M : Me), GN p l e (k2_rm 1 24) s m args below meth c D T b 4 eV 161 [(0, .ref (b + a0)), (1, .int x1), (2, .int x2)] [] M (kx x3 M)) (kb : Int32 × Me → Option (Unit × Me)) (hkb : ∀ z : Int32 × Me, GN p l e (k2_rm 1 24) s m args below meth c D T b 4 eV 128 [(0, .ref (b + a0)), (1, .int x1), (2, .int x2), (3, .int z.1)] [] z.2 (kb z)) (M : Me) : GN p l e (k2_rm 1 24) s m args below meth c D T b 4 eV 128 [(0, .ref (b + a0)), (1, .int x1), (2, .int x2), (3, .int x3)] [] M (g_X5_putName_128 kx kb a0 x1 x2 x3 M) := by
  unfold g_X5_putName_128
  refine n_iload_n hC 3 rfl dX5_putName_128 ?_
  refine n_aload_n hC 0 rfl dX5_putName_129 ?_
  refine n_get hC clX5 h0 12 (.ref (b + (rf a0 12))) (by decide) rfl fl_X5_99 rfl dX5_putName_130 ?_
  refine n_iload_n hC 2 rfl dX5_putName_133 ?_
  refine n_iald hC (kf_X5_12 h0) dX5_putName_134 (fun g17 => ?_)
  refine n_icmp_ge hC 161 dX5_putName_135 (by decide) ?_ ?_
  · exact GN.sub [0, 1, 2] rfl (hkx x3 M)
  refine n_aload_n hC 0 rfl dX5_putName_138 ?_
  refine n_aload_n hC 0 rfl dX5_putName_139 ?_
  refine n_get hC clX5 h0 13 (.ref (b + (rf a0 13))) (by decide) rfl fl_X5_102 rfl dX5_putName_140 ?_
  refine n_bipush hC (8 : Int32) (by decide) dX5_putName_143 ?_
  refine n_iload_n hC 2 rfl dX5_putName_145 ?_
  refine n_imul hC dX5_putName_146 ?_
  refine n_iload_n hC 3 rfl dX5_putName_147 ?_
  refine n_iadd hC dX5_putName_148 ?_
  refine n_iald hC (kf_X5_13 h0) dX5_putName_149 (fun g18 => ?_)
  refine n_i2l hC dX5_putName_150 ?_
  refine n_iconst hC (1 : Int32) (by decide) dX5_putName_151 ?_
  refine n_callVv (As := [.long ((M.1 (rf a0 13) (((8 : Int32) * x2) + x3).toNatClampNeg)).toInt64, .int (1 : Int32)]) (rest := []) h0 rfl (by decide) hC (c_X5_put l M a0 (((M.1 (rf a0 13) (((8 : Int32) * x2) + x3).toNatClampNeg)).toInt64) (1 : Int32) h0) my_X5_put ml_X5_131 rfl rfl rfl (Nat.le_of_ble_eq_true rfl) ⟨by decide, by decide⟩ dX5_putName_152 (fun r19 M20 => ?_)
  refine n_iincB hC (1 : Int32) (by decide) (fun v21 => [(3, .int v21), (0, .ref (b + a0)), (1, .int x1), (2, .int x2)]) 3 rfl (by decide) (fun _ => rfl) dX5_putName_155 (fun v21 => ?_)
  refine n_goto hC (tgt := 128) (by decide) dX5_putName_158 ?_
  exact GN.sub [1, 2, 3, 0] rfl (hkb (v21, M20))
def l_X5_putName_128 (kx : Int32 → Me → Option (Unit × Me)) (a0 : Nat) (x1 : Int32) (x2 : Int32) (x3 : Int32) (M : Me) : Option (Unit × Me) := lp (fun kb z => g_X5_putName_128 kx kb a0 x1 x2 z.1 z.2) FU (x3, M)
set_option maxHeartbeats 4000000 in
set_option maxRecDepth 100000 in
theorem b_X5_putName_128 {p : Program} {l : Launch} {e : Env} {s : State} {m : MethodId} {args : Array Value} {below : List Frame} {meth : Method} {c : Code} {D : va_G} {T : Nat → ClassId} {b : Nat} (hC : CX p s m args meth c cX5_putName 4 RX5 none D T) (a0 : Nat) (x1 : Int32) (x2 : Int32) (x3 : Int32) (h0 : kd a0 = 5) (kx : Int32 → Me → Option (Unit × Me)) (hkx : ∀ (x3 : Int32) (M : Me), GN p l e (k2_rm 1 24) s m args below meth c D T b 4 eV 161 [(0, .ref (b + a0)), (1, .int x1), (2, .int x2)] [] M (kx x3 M)) (M : Me) : GN p l e (k2_rm 1 24) s m args below meth c D T b 4 eV 128 [(0, .ref (b + a0)), (1, .int x1), (2, .int x2), (3, .int x3)] [] M (l_X5_putName_128 kx a0 x1 x2 x3 M) := by
  exact n_loop (σ := Int32 × Me) (fun z => [(0, .ref (b + a0)), (1, .int x1), (2, .int x2), (3, .int z.1)]) (fun z => z.2) (fun kb hkb z => b_X5_putName_128_g hC a0 x1 x2 z.1 h0 kx hkx kb hkb z.2) FU (x3, M)
def g_X5_putName_88 (kx : Int32 → Me → Option (Unit × Me)) (kb : Int32 × Me → Option (Unit × Me)) (a0 : Nat) (x1 : Int32) (x2 : Int32) (M : Me) : Option (Unit × Me) := chk x1 (ln (rf a0 10)) (if (((3 : Int32) * x1) + (M.1 (rf a0 10) x1.toNatClampNeg)) ≤ x2 then kx x2 M else chk x2 (ln (rf a0 11)) (cal (f_X5_put M a0 (((M.1 (rf a0 11) x2.toNatClampNeg)).toInt64) (2 : Int32)) (fun _ M13 => chk x2 (ln (rf a0 12)) (cal (f_X5_put M13 a0 (((M13.1 (rf a0 12) x2.toNatClampNeg)).toInt64) (2 : Int32)) (fun _ M16 => l_X5_putName_128 (fun v22 M23 => bndV (x2 + (1 : Int32)) (fun v24 => kb (v24, M23))) a0 x1 x2 (0 : Int32) M16)))))
set_option maxHeartbeats 4000000 in
set_option maxRecDepth 100000 in
theorem b_X5_putName_88_g {p : Program} {l : Launch} {e : Env} {s : State} {m : MethodId} {args : Array Value} {below : List Frame} {meth : Method} {c : Code} {D : va_G} {T : Nat → ClassId} {b : Nat} (hC : CX p s m args meth c cX5_putName 4 RX5 none D T) (a0 : Nat) (x1 : Int32) (x2 : Int32) (h0 : kd a0 = 5) (kx : Int32 → Me → Option (Unit × Me)) (hkx : ∀ (x2 : Int32) (M : Me), GN p l e (k2_rm 1 24) s m args below meth c D T b 4 eV 167 [] [] M (kx x2 M)) (kb : Int32 × Me → Option (Unit × Me)) (hkb : ∀ z : Int32 × Me, GN p l e (k2_rm 1 24) s m args below meth c D T b 4 eV 88 [(0, .ref (b + a0)), (1, .int x1), (2, .int z.1)] [] z.2 (kb z)) (M : Me) : GN p l e (k2_rm 1 24) s m args below meth c D T b 4 eV 88 [(0, .ref (b + a0)), (1, .int x1), (2, .int x2)] [] M (g_X5_putName_88 kx kb a0 x1 x2 M) := by
  unfold g_X5_putName_88
  refine n_iload_n hC 2 rfl dX5_putName_88 ?_
  refine n_iconst hC (3 : Int32) (by decide) dX5_putName_89 ?_
  refine n_iload_n hC 1 rfl dX5_putName_90 ?_
  refine n_imul hC dX5_putName_91 ?_
  refine n_aload_n hC 0 rfl dX5_putName_92 ?_
  refine n_get hC clX5 h0 10 (.ref (b + (rf a0 10))) (by decide) rfl fl_X5_36 rfl dX5_putName_93 ?_
  refine n_iload_n hC 1 rfl dX5_putName_96 ?_
  refine n_iald hC (kf_X5_10 h0) dX5_putName_97 (fun g10 => ?_)
  refine n_iadd hC dX5_putName_98 ?_
  refine n_icmp_ge hC 167 dX5_putName_99 (by decide) ?_ ?_
  · exact GN.sub [] rfl (hkx x2 M)
  refine n_aload_n hC 0 rfl dX5_putName_102 ?_
  refine n_aload_n hC 0 rfl dX5_putName_103 ?_
  refine n_get hC clX5 h0 11 (.ref (b + (rf a0 11))) (by decide) rfl fl_X5_96 rfl dX5_putName_104 ?_
  refine n_iload_n hC 2 rfl dX5_putName_107 ?_
  refine n_iald hC (kf_X5_11 h0) dX5_putName_108 (fun g11 => ?_)
  refine n_i2l hC dX5_putName_109 ?_
  refine n_iconst hC (2 : Int32) (by decide) dX5_putName_110 ?_
  refine n_callVv (As := [.long ((M.1 (rf a0 11) x2.toNatClampNeg)).toInt64, .int (2 : Int32)]) (rest := []) h0 rfl (by decide) hC (c_X5_put l M a0 (((M.1 (rf a0 11) x2.toNatClampNeg)).toInt64) (2 : Int32) h0) my_X5_put ml_X5_131 rfl rfl rfl (Nat.le_of_ble_eq_true rfl) ⟨by decide, by decide⟩ dX5_putName_111 (fun r12 M13 => ?_)
  refine n_aload_n hC 0 rfl dX5_putName_114 ?_
  refine n_aload_n hC 0 rfl dX5_putName_115 ?_
  refine n_get hC clX5 h0 12 (.ref (b + (rf a0 12))) (by decide) rfl fl_X5_99 rfl dX5_putName_116 ?_
  refine n_iload_n hC 2 rfl dX5_putName_119 ?_
  refine n_iald hC (kf_X5_12 h0) dX5_putName_120 (fun g14 => ?_)
  refine n_i2l hC dX5_putName_121 ?_
  refine n_iconst hC (2 : Int32) (by decide) dX5_putName_122 ?_
  refine n_callVv (As := [.long ((M13.1 (rf a0 12) x2.toNatClampNeg)).toInt64, .int (2 : Int32)]) (rest := []) h0 rfl (by decide) hC (c_X5_put l M13 a0 (((M13.1 (rf a0 12) x2.toNatClampNeg)).toInt64) (2 : Int32) h0) my_X5_put ml_X5_131 rfl rfl rfl (Nat.le_of_ble_eq_true rfl) ⟨by decide, by decide⟩ dX5_putName_123 (fun r15 M16 => ?_)
  refine n_iconst hC (0 : Int32) (by decide) dX5_putName_126 ?_
  refine n_istore_n hC rfl [(3, .int (0 : Int32)), (0, .ref (b + a0)), (1, .int x1), (2, .int x2)] (by decide) rfl dX5_putName_127 ?_
  refine GN.sub [1, 2, 3, 0] rfl (b_X5_putName_128 hC a0 x1 x2 (0 : Int32) h0 _ (fun v22 M23 => ?_) M16)
  refine n_iincB hC (1 : Int32) (by decide) (fun v24 => [(2, .int v24), (0, .ref (b + a0)), (1, .int x1)]) 2 rfl (by decide) (fun _ => rfl) dX5_putName_161 (fun v24 => ?_)
  refine n_goto hC (tgt := 88) (by decide) dX5_putName_164 ?_
  exact GN.sub [1, 2, 0] rfl (hkb (v24, M23))
def l_X5_putName_88 (kx : Int32 → Me → Option (Unit × Me)) (a0 : Nat) (x1 : Int32) (x2 : Int32) (M : Me) : Option (Unit × Me) := lp (fun kb z => g_X5_putName_88 kx kb a0 x1 z.1 z.2) FU (x2, M)
set_option maxHeartbeats 4000000 in
set_option maxRecDepth 100000 in
theorem b_X5_putName_88 {p : Program} {l : Launch} {e : Env} {s : State} {m : MethodId} {args : Array Value} {below : List Frame} {meth : Method} {c : Code} {D : va_G} {T : Nat → ClassId} {b : Nat} (hC : CX p s m args meth c cX5_putName 4 RX5 none D T) (a0 : Nat) (x1 : Int32) (x2 : Int32) (h0 : kd a0 = 5) (kx : Int32 → Me → Option (Unit × Me)) (hkx : ∀ (x2 : Int32) (M : Me), GN p l e (k2_rm 1 24) s m args below meth c D T b 4 eV 167 [] [] M (kx x2 M)) (M : Me) : GN p l e (k2_rm 1 24) s m args below meth c D T b 4 eV 88 [(0, .ref (b + a0)), (1, .int x1), (2, .int x2)] [] M (l_X5_putName_88 kx a0 x1 x2 M) := by
  exact n_loop (σ := Int32 × Me) (fun z => [(0, .ref (b + a0)), (1, .int x1), (2, .int z.1)]) (fun z => z.2) (fun kb hkb z => b_X5_putName_88_g hC a0 x1 z.1 h0 kx hkx kb hkb z.2) FU (x2, M)
def j_X5_putName_84 (a0 : Nat) (x1 : Int32) (M : Me) : Option (Unit × Me) := bndV ((3 : Int32) * x1) (fun v9 => l_X5_putName_88 (fun v25 M26 => some ((), M26)) a0 x1 v9 M)
set_option maxHeartbeats 4000000 in
set_option maxRecDepth 100000 in
theorem b_X5_putName_84 {p : Program} {l : Launch} {e : Env} {s : State} {m : MethodId} {args : Array Value} {below : List Frame} {meth : Method} {c : Code} {D : va_G} {T : Nat → ClassId} {b : Nat} (hC : CX p s m args meth c cX5_putName 4 RX5 none D T) (a0 : Nat) (x1 : Int32) (h0 : kd a0 = 5) (M : Me) : GN p l e (k2_rm 1 24) s m args below meth c D T b 4 eV 84 [(0, .ref (b + a0)), (1, .int x1)] [] M (j_X5_putName_84 a0 x1 M) := by
  unfold j_X5_putName_84
  refine n_iconst hC (3 : Int32) (by decide) dX5_putName_84 ?_
  refine n_iload_n hC 1 rfl dX5_putName_85 ?_
  refine n_imul hC dX5_putName_86 ?_
  refine n_istB_n hC rfl (fun v9 => [(2, .int v9), (0, .ref (b + a0)), (1, .int x1)]) (by decide) (fun _ => rfl) dX5_putName_87 (fun v9 => ?_)
  refine GN.sub [1, 2, 0] rfl (b_X5_putName_88 hC a0 x1 v9 h0 _ (fun v25 M26 => ?_) M)
  exact n_vret hC dX5_putName_167
def f_X5_putName (M : Me) (a0 : Nat) (x1 : Int32) : Option (Unit × Me) := l_X5_putName_2 (fun v6 M7 => chk x1 (ln (rf a0 4)) (if (M7.1 (rf a0 4) x1.toNatClampNeg) = (2 : Int32) then cal (f_X5_put M7 a0 (1 : Int64) (2 : Int32)) (fun _ M28 => cal (f_X5_put M28 a0 (16 : Int64) (2 : Int32)) (fun _ M30 => cal (f_X5_trueSize M30 a0 x1) (fun r31 M32 => cal (f_X5_put M32 a0 r31.toInt64 (8 : Int32)) (fun _ M34 => chk x1 (ln (rf a0 15)) (cal (f_X5_put M34 a0 (((M34.1 (rf a0 15) x1.toNatClampNeg)).toInt64) (8 : Int32)) (fun _ M37 => j_X5_putName_84 a0 x1 M37)))))) else j_X5_putName_84 a0 x1 M7)) a0 x1 (0 : Int32) M
set_option maxHeartbeats 4000000 in
set_option maxRecDepth 100000 in
theorem c_X5_putName (l : Launch) (M : Me) (a0 : Nat) (x1 : Int32) (h0 : kd a0 = 5) : CN l yX5_putName cX5_putName 4 none (k2_rm 1 24) eV (fun b => [.ref (b + a0), .int x1]) M (f_X5_putName M a0 x1) := by
  refine CN.of RX5 (fun b => [(0, .ref (b + a0)), (1, .int x1)]) (by decide) rfl (fun b => Nat.le_of_ble_eq_true rfl) (fun b => rfl) ?_
  intro p e s m args below meth c D T b hC
  unfold f_X5_putName
  refine n_iconst hC (0 : Int32) (by decide) dX5_putName_0 ?_
  refine n_istore_n hC rfl [(2, .int (0 : Int32)), (0, .ref (b + a0)), (1, .int x1)] (by decide) rfl dX5_putName_1 ?_
  refine GN.sub [1, 2, 0] rfl (b_X5_putName_2 hC a0 x1 (0 : Int32) h0 _ (fun v6 M7 => ?_) M)
  refine n_aload_n hC 0 rfl dX5_putName_35 ?_
  refine n_get hC clX5 h0 4 (.ref (b + (rf a0 4))) (by decide) rfl fl_X5_75 rfl dX5_putName_36 ?_
  refine n_iload_n hC 1 rfl dX5_putName_39 ?_
  refine n_iald hC (kf_X5_4 h0) dX5_putName_40 (fun g8 => ?_)
  refine n_iconst hC (2 : Int32) (by decide) dX5_putName_41 ?_
  refine n_icmp_ne hC 84 dX5_putName_42 (by decide) ?_ ?_
  · exact GN.sub [0, 1] rfl (b_X5_putName_84 hC a0 x1 h0 M7)
  refine n_aload_n hC 0 rfl dX5_putName_45 ?_
  refine n_lconst hC (1 : Int64) (by decide) dX5_putName_46 ?_
  refine n_iconst hC (2 : Int32) (by decide) dX5_putName_47 ?_
  refine n_callVv (As := [.long (1 : Int64), .int (2 : Int32)]) (rest := []) h0 rfl (by decide) hC (c_X5_put l M7 a0 (1 : Int64) (2 : Int32) h0) my_X5_put ml_X5_131 rfl rfl rfl (Nat.le_of_ble_eq_true rfl) ⟨by decide, by decide⟩ dX5_putName_48 (fun r27 M28 => ?_)
  refine n_aload_n hC 0 rfl dX5_putName_51 ?_
  refine n_ldc2 hC (16 : Int64) kc_X5_135 dX5_putName_52 ?_
  refine n_iconst hC (2 : Int32) (by decide) dX5_putName_55 ?_
  refine n_callVv (As := [.long (16 : Int64), .int (2 : Int32)]) (rest := []) h0 rfl (by decide) hC (c_X5_put l M28 a0 (16 : Int64) (2 : Int32) h0) my_X5_put ml_X5_131 rfl rfl rfl (Nat.le_of_ble_eq_true rfl) ⟨by decide, by decide⟩ dX5_putName_56 (fun r29 M30 => ?_)
  refine n_aload_n hC 0 rfl dX5_putName_59 ?_
  refine n_aload_n hC 0 rfl dX5_putName_60 ?_
  refine n_iload_n hC 1 rfl dX5_putName_61 ?_
  refine n_callVi (As := [.int x1]) (rest := [.ref (b + a0)]) h0 rfl (by decide) hC (c_X5_trueSize l M30 a0 x1 h0) my_X5_trueSize ml_X5_137 rfl rfl rfl (Nat.le_of_ble_eq_true rfl) ⟨by decide, by decide⟩ dX5_putName_62 (fun r31 M32 => ?_)
  refine n_i2l hC dX5_putName_65 ?_
  refine n_bipush hC (8 : Int32) (by decide) dX5_putName_66 ?_
  refine n_callVv (As := [.long r31.toInt64, .int (8 : Int32)]) (rest := []) h0 rfl (by decide) hC (c_X5_put l M32 a0 r31.toInt64 (8 : Int32) h0) my_X5_put ml_X5_131 rfl rfl rfl (Nat.le_of_ble_eq_true rfl) ⟨by decide, by decide⟩ dX5_putName_68 (fun r33 M34 => ?_)
  refine n_aload_n hC 0 rfl dX5_putName_71 ?_
  refine n_aload_n hC 0 rfl dX5_putName_72 ?_
  refine n_get hC clX5 h0 15 (.ref (b + (rf a0 15))) (by decide) rfl fl_X5_43 rfl dX5_putName_73 ?_
  refine n_iload_n hC 1 rfl dX5_putName_76 ?_
  refine n_iald hC (kf_X5_15 h0) dX5_putName_77 (fun g35 => ?_)
  refine n_i2l hC dX5_putName_78 ?_
  refine n_bipush hC (8 : Int32) (by decide) dX5_putName_79 ?_
  refine n_callVv (As := [.long ((M34.1 (rf a0 15) x1.toNatClampNeg)).toInt64, .int (8 : Int32)]) (rest := []) h0 rfl (by decide) hC (c_X5_put l M34 a0 (((M34.1 (rf a0 15) x1.toNatClampNeg)).toInt64) (8 : Int32) h0) my_X5_put ml_X5_131 rfl rfl rfl (Nat.le_of_ble_eq_true rfl) ⟨by decide, by decide⟩ dX5_putName_81 (fun r36 M37 => ?_)
  exact GN.sub [0, 1] rfl (b_X5_putName_84 hC a0 x1 h0 M37)
