def f_X3_putCell (M : Me) (a0 : Nat) (x1 : Int32) : Option (Unit × Me) := if (2000 : Int32) ≤ (M.1 a0 1) then some ((), M) else chk (M.1 a0 1) (ln (rf a0 0)) (bnd (sI M (rf a0 0) (M.1 a0 1).toNatClampNeg (vp_nar .byte x1)) (fun M1 => bnd (sI M1 a0 1 ((M1.1 a0 1) + (1 : Int32))) (fun M2 => some ((), M2))))
set_option maxHeartbeats 4000000 in
set_option maxRecDepth 100000 in
theorem c_X3_putCell (l : Launch) (M : Me) (a0 : Nat) (x1 : Int32) (h0 : kd a0 = 3) : CN l yX3_putCell cX3_putCell 2 none (k2_rm 0 0) eV (fun b => [.ref (b + a0), .int x1]) M (f_X3_putCell M a0 x1) := by
  refine CN.of RX3 (fun b => [(0, .ref (b + a0)), (1, .int x1)]) (by decide) rfl (fun b => Nat.le_of_ble_eq_true rfl) (fun b => rfl) ?_
  intro p e s m args below meth c D T b hC
  unfold f_X3_putCell
  refine n_aload_n hC 0 rfl dX3_putCell_0 ?_
  refine n_get hC clX3 h0 1 (.int (M.1 a0 1)) (by decide) rfl fl_X3_15 rfl dX3_putCell_1 ?_
  refine n_sipush hC (2000 : Int32) (by decide) dX3_putCell_4 ?_
  refine n_icmp_ge hC 30 dX3_putCell_7 (by decide) ?_ ?_
  · exact n_vret hC dX3_putCell_30
  refine n_aload_n hC 0 rfl dX3_putCell_10 ?_
  refine n_get hC clX3 h0 0 (.ref (b + (rf a0 0))) (by decide) rfl fl_X3_9 rfl dX3_putCell_11 ?_
  refine n_aload_n hC 0 rfl dX3_putCell_14 ?_
  refine n_get hC clX3 h0 1 (.int (M.1 a0 1)) (by decide) rfl fl_X3_15 rfl dX3_putCell_15 ?_
  refine n_iload_n hC 1 rfl dX3_putCell_18 ?_
  refine n_bast hC (kf_X3_0 h0) dX3_putCell_19 (fun M1 => ?_)
  refine n_aload_n hC 0 rfl dX3_putCell_20 ?_
  refine n_dup hC rfl dX3_putCell_21 ?_
  refine n_get hC clX3 h0 1 (.int (M1.1 a0 1)) (by decide) rfl fl_X3_15 rfl dX3_putCell_22 ?_
  refine n_iconst hC (1 : Int32) (by decide) dX3_putCell_25 ?_
  refine n_iadd hC dX3_putCell_26 ?_
  refine n_putI hC clX3 h0 1 (by decide) rfl rfl rfl fl_X3_15 dX3_putCell_27 (fun M2 => ?_)
  exact n_vret hC dX3_putCell_30
def g_X3_putNumber_3 (kx : Int32 → Me → Option (Unit × Me)) (kb : Int32 × Me → Option (Unit × Me)) (a0 : Nat) (y1 : Int64) (x3 : Int32) (x4 : Int32) (M : Me) : Option (Unit × Me) := if x3 ≤ x4 then kx x4 M else cal (f_X3_putCell M a0 (((lUshr y1 ((8 : Int32) * x4)).toInt32).toInt8.toInt32)) (fun _ M2 => bndV (x4 + (1 : Int32)) (fun v3 => kb (v3, M2)))
set_option maxHeartbeats 4000000 in
set_option maxRecDepth 100000 in
theorem b_X3_putNumber_3_g {p : Program} {l : Launch} {e : Env} {s : State} {m : MethodId} {args : Array Value} {below : List Frame} {meth : Method} {c : Code} {D : va_G} {T : Nat → ClassId} {b : Nat} (hC : CX p s m args meth c cX3_putNumber 5 RX3 none D T) (a0 : Nat) (y1 : Int64) (x3 : Int32) (x4 : Int32) (h0 : kd a0 = 3) (kx : Int32 → Me → Option (Unit × Me)) (hkx : ∀ (x4 : Int32) (M : Me), GN p l e (k2_rm 1 21) s m args below meth c D T b 5 eV 28 [] [] M (kx x4 M)) (kb : Int32 × Me → Option (Unit × Me)) (hkb : ∀ z : Int32 × Me, GN p l e (k2_rm 1 21) s m args below meth c D T b 5 eV 3 [(0, .ref (b + a0)), (1, .long y1), (3, .int x3), (4, .int z.1)] [] z.2 (kb z)) (M : Me) : GN p l e (k2_rm 1 21) s m args below meth c D T b 5 eV 3 [(0, .ref (b + a0)), (1, .long y1), (3, .int x3), (4, .int x4)] [] M (g_X3_putNumber_3 kx kb a0 y1 x3 x4 M) := by
  unfold g_X3_putNumber_3
  refine n_iload hC 3 rfl dX3_putNumber_3 ?_
  refine n_iload_n hC 2 rfl dX3_putNumber_5 ?_
  refine n_icmp_ge hC 28 dX3_putNumber_6 (by decide) ?_ ?_
  · exact GN.sub [] rfl (hkx x4 M)
  refine n_aload_n hC 0 rfl dX3_putNumber_9 ?_
  refine n_lload_n hC 1 rfl dX3_putNumber_10 ?_
  refine n_bipush hC (8 : Int32) (by decide) dX3_putNumber_11 ?_
  refine n_iload hC 3 rfl dX3_putNumber_13 ?_
  refine n_imul hC dX3_putNumber_15 ?_
  refine n_lushr hC dX3_putNumber_16 ?_
  refine n_l2i hC dX3_putNumber_17 ?_
  refine n_i2b hC dX3_putNumber_18 ?_
  refine n_callVv (As := [.int ((lUshr y1 ((8 : Int32) * x4)).toInt32).toInt8.toInt32]) (rest := []) h0 rfl (by decide) hC (c_X3_putCell l M a0 (((lUshr y1 ((8 : Int32) * x4)).toInt32).toInt8.toInt32) h0) my_X3_putCell ml_X3_27 rfl rfl rfl (Nat.le_of_ble_eq_true rfl) ⟨by decide, by decide⟩ dX3_putNumber_19 (fun r1 M2 => ?_)
  refine n_iincB hC (1 : Int32) (by decide) (fun v3 => [(4, .int v3), (0, .ref (b + a0)), (1, .long y1), (3, .int x3)]) 3 rfl (by decide) (fun _ => rfl) dX3_putNumber_22 (fun v3 => ?_)
  refine n_goto hC (tgt := 3) (by decide) dX3_putNumber_25 ?_
  exact GN.sub [1, 2, 3, 0] rfl (hkb (v3, M2))
def l_X3_putNumber_3 (kx : Int32 → Me → Option (Unit × Me)) (a0 : Nat) (y1 : Int64) (x3 : Int32) (x4 : Int32) (M : Me) : Option (Unit × Me) := lp (fun kb z => g_X3_putNumber_3 kx kb a0 y1 x3 z.1 z.2) FU (x4, M)
set_option maxHeartbeats 4000000 in
set_option maxRecDepth 100000 in
theorem b_X3_putNumber_3 {p : Program} {l : Launch} {e : Env} {s : State} {m : MethodId} {args : Array Value} {below : List Frame} {meth : Method} {c : Code} {D : va_G} {T : Nat → ClassId} {b : Nat} (hC : CX p s m args meth c cX3_putNumber 5 RX3 none D T) (a0 : Nat) (y1 : Int64) (x3 : Int32) (x4 : Int32) (h0 : kd a0 = 3) (kx : Int32 → Me → Option (Unit × Me)) (hkx : ∀ (x4 : Int32) (M : Me), GN p l e (k2_rm 1 21) s m args below meth c D T b 5 eV 28 [] [] M (kx x4 M)) (M : Me) : GN p l e (k2_rm 1 21) s m args below meth c D T b 5 eV 3 [(0, .ref (b + a0)), (1, .long y1), (3, .int x3), (4, .int x4)] [] M (l_X3_putNumber_3 kx a0 y1 x3 x4 M) := by
  exact n_loop (σ := Int32 × Me) (fun z => [(0, .ref (b + a0)), (1, .long y1), (3, .int x3), (4, .int z.1)]) (fun z => z.2) (fun kb hkb z => b_X3_putNumber_3_g hC a0 y1 x3 z.1 h0 kx hkx kb hkb z.2) FU (x4, M)
def f_X3_putNumber (M : Me) (a0 : Nat) (y1 : Int64) (x3 : Int32) : Option (Unit × Me) := l_X3_putNumber_3 (fun v4 M5 => some ((), M5)) a0 y1 x3 (0 : Int32) M
set_option maxHeartbeats 4000000 in
set_option maxRecDepth 100000 in
theorem c_X3_putNumber (l : Launch) (M : Me) (a0 : Nat) (y1 : Int64) (x3 : Int32) (h0 : kd a0 = 3) : CN l yX3_putNumber cX3_putNumber 5 none (k2_rm 1 21) eV (fun b => [.ref (b + a0), .long y1, .int x3]) M (f_X3_putNumber M a0 y1 x3) := by
  refine CN.of RX3 (fun b => [(0, .ref (b + a0)), (1, .long y1), (3, .int x3)]) (by decide) rfl (fun b => Nat.le_of_ble_eq_true rfl) (fun b => rfl) ?_
  intro p e s m args below meth c D T b hC
  unfold f_X3_putNumber
  refine n_iconst hC (0 : Int32) (by decide) dX3_putNumber_0 ?_
  refine n_istore hC [(4, .int (0 : Int32)), (0, .ref (b + a0)), (1, .long y1), (3, .int x3)] (by decide) rfl dX3_putNumber_1 ?_
  refine GN.sub [1, 2, 3, 0] rfl (b_X3_putNumber_3 hC a0 y1 x3 (0 : Int32) h0 _ (fun v4 M5 => ?_) M)
  exact n_vret hC dX3_putNumber_28
def g_X3_putCells_3 (kx : Int32 → Me → Option (Unit × Me)) (kb : Int32 × Me → Option (Unit × Me)) (a0 : Nat) (a1 : Nat) (x2 : Int32) (x3 : Int32) (x4 : Int32) (M : Me) : Option (Unit × Me) := if x3 ≤ x4 then kx x4 M else if (nI (ln a1)) ≤ (x2 + x4) then kx x4 M else chk (x2 + x4) (ln a1) (cal (f_X3_putCell M a0 (M.1 a1 (x2 + x4).toNatClampNeg)) (fun _ M3 => bndV (x4 + (1 : Int32)) (fun v4 => kb (v4, M3))))
set_option maxHeartbeats 4000000 in
set_option maxRecDepth 100000 in
theorem b_X3_putCells_3_g {p : Program} {l : Launch} {e : Env} {s : State} {m : MethodId} {args : Array Value} {below : List Frame} {meth : Method} {c : Code} {D : va_G} {T : Nat → ClassId} {b : Nat} (hC : CX p s m args meth c cX3_putCells 5 RX3 none D T) (a0 : Nat) (a1 : Nat) (x2 : Int32) (x3 : Int32) (x4 : Int32) (h0 : kd a0 = 3) (h1 : kd a1 = 6) (kx : Int32 → Me → Option (Unit × Me)) (hkx : ∀ (x4 : Int32) (M : Me), GN p l e (k2_rm 1 21) s m args below meth c D T b 5 eV 34 [] [] M (kx x4 M)) (kb : Int32 × Me → Option (Unit × Me)) (hkb : ∀ z : Int32 × Me, GN p l e (k2_rm 1 21) s m args below meth c D T b 5 eV 3 [(0, .ref (b + a0)), (1, .ref (b + a1)), (2, .int x2), (3, .int x3), (4, .int z.1)] [] z.2 (kb z)) (M : Me) : GN p l e (k2_rm 1 21) s m args below meth c D T b 5 eV 3 [(0, .ref (b + a0)), (1, .ref (b + a1)), (2, .int x2), (3, .int x3), (4, .int x4)] [] M (g_X3_putCells_3 kx kb a0 a1 x2 x3 x4 M) := by
  unfold g_X3_putCells_3
  refine n_iload hC 4 rfl dX3_putCells_3 ?_
  refine n_iload_n hC 3 rfl dX3_putCells_5 ?_
  refine n_icmp_ge hC 34 dX3_putCells_6 (by decide) ?_ ?_
  · exact GN.sub [] rfl (hkx x4 M)
  refine n_iload_n hC 2 rfl dX3_putCells_9 ?_
  refine n_iload hC 4 rfl dX3_putCells_10 ?_
  refine n_iadd hC dX3_putCells_12 ?_
  refine n_aload_n hC 1 rfl dX3_putCells_13 ?_
  refine n_alen hC h1 (by decide) dX3_putCells_14 ?_
  refine n_icmp_ge hC 34 dX3_putCells_15 (by decide) ?_ ?_
  · exact GN.sub [] rfl (hkx x4 M)
  refine n_aload_n hC 0 rfl dX3_putCells_18 ?_
  refine n_aload_n hC 1 rfl dX3_putCells_19 ?_
  refine n_iload_n hC 2 rfl dX3_putCells_20 ?_
  refine n_iload hC 4 rfl dX3_putCells_21 ?_
  refine n_iadd hC dX3_putCells_23 ?_
  refine n_bald hC h1 dX3_putCells_24 (fun g1 => ?_)
  refine n_callVv (As := [.int (M.1 a1 (x2 + x4).toNatClampNeg)]) (rest := []) h0 rfl (by decide) hC (c_X3_putCell l M a0 (M.1 a1 (x2 + x4).toNatClampNeg) h0) my_X3_putCell ml_X3_27 rfl rfl rfl (Nat.le_of_ble_eq_true rfl) ⟨by decide, by decide⟩ dX3_putCells_25 (fun r2 M3 => ?_)
  refine n_iincB hC (1 : Int32) (by decide) (fun v4 => [(4, .int v4), (0, .ref (b + a0)), (1, .ref (b + a1)), (2, .int x2), (3, .int x3)]) 4 rfl (by decide) (fun _ => rfl) dX3_putCells_28 (fun v4 => ?_)
  refine n_goto hC (tgt := 3) (by decide) dX3_putCells_31 ?_
  exact GN.sub [1, 2, 3, 4, 0] rfl (hkb (v4, M3))
def l_X3_putCells_3 (kx : Int32 → Me → Option (Unit × Me)) (a0 : Nat) (a1 : Nat) (x2 : Int32) (x3 : Int32) (x4 : Int32) (M : Me) : Option (Unit × Me) := lp (fun kb z => g_X3_putCells_3 kx kb a0 a1 x2 x3 z.1 z.2) FU (x4, M)
set_option maxHeartbeats 4000000 in
set_option maxRecDepth 100000 in
theorem b_X3_putCells_3 {p : Program} {l : Launch} {e : Env} {s : State} {m : MethodId} {args : Array Value} {below : List Frame} {meth : Method} {c : Code} {D : va_G} {T : Nat → ClassId} {b : Nat} (hC : CX p s m args meth c cX3_putCells 5 RX3 none D T) (a0 : Nat) (a1 : Nat) (x2 : Int32) (x3 : Int32) (x4 : Int32) (h0 : kd a0 = 3) (h1 : kd a1 = 6) (kx : Int32 → Me → Option (Unit × Me)) (hkx : ∀ (x4 : Int32) (M : Me), GN p l e (k2_rm 1 21) s m args below meth c D T b 5 eV 34 [] [] M (kx x4 M)) (M : Me) : GN p l e (k2_rm 1 21) s m args below meth c D T b 5 eV 3 [(0, .ref (b + a0)), (1, .ref (b + a1)), (2, .int x2), (3, .int x3), (4, .int x4)] [] M (l_X3_putCells_3 kx a0 a1 x2 x3 x4 M) := by
  exact n_loop (σ := Int32 × Me) (fun z => [(0, .ref (b + a0)), (1, .ref (b + a1)), (2, .int x2), (3, .int x3), (4, .int z.1)]) (fun z => z.2) (fun kb hkb z => b_X3_putCells_3_g hC a0 a1 x2 x3 z.1 h0 h1 kx hkx kb hkb z.2) FU (x4, M)
def f_X3_putCells (M : Me) (a0 : Nat) (a1 : Nat) (x2 : Int32) (x3 : Int32) : Option (Unit × Me) := l_X3_putCells_3 (fun v5 M6 => some ((), M6)) a0 a1 x2 x3 (0 : Int32) M
set_option maxHeartbeats 4000000 in
set_option maxRecDepth 100000 in
theorem c_X3_putCells (l : Launch) (M : Me) (a0 : Nat) (a1 : Nat) (x2 : Int32) (x3 : Int32) (h0 : kd a0 = 3) (h1 : kd a1 = 6) : CN l yX3_putCells cX3_putCells 5 none (k2_rm 1 21) eV (fun b => [.ref (b + a0), .ref (b + a1), .int x2, .int x3]) M (f_X3_putCells M a0 a1 x2 x3) := by
  refine CN.of RX3 (fun b => [(0, .ref (b + a0)), (1, .ref (b + a1)), (2, .int x2), (3, .int x3)]) (by decide) rfl (fun b => Nat.le_of_ble_eq_true rfl) (fun b => rfl) ?_
  intro p e s m args below meth c D T b hC
  unfold f_X3_putCells
  refine n_iconst hC (0 : Int32) (by decide) dX3_putCells_0 ?_
  refine n_istore hC [(4, .int (0 : Int32)), (0, .ref (b + a0)), (1, .ref (b + a1)), (2, .int x2), (3, .int x3)] (by decide) rfl dX3_putCells_1 ?_
  refine GN.sub [1, 2, 3, 4, 0] rfl (b_X3_putCells_3 hC a0 a1 x2 x3 (0 : Int32) h0 h1 _ (fun v5 M6 => ?_) M)
  exact n_vret hC dX3_putCells_34
def f_X3_number1 (M : Me) (a0 : Nat) (x1 : Int32) : Option (Int32 × Me) := if x1 < (0 : Int32) then some ((0 : Int32), M) else if x1 < (2000 : Int32) then chk x1 (ln (rf a0 0)) (some (((M.1 (rf a0 0) x1.toNatClampNeg) &&& (255 : Int32)), M)) else some ((0 : Int32), M)
set_option maxHeartbeats 4000000 in
set_option maxRecDepth 100000 in
theorem c_X3_number1 (l : Launch) (M : Me) (a0 : Nat) (x1 : Int32) (h0 : kd a0 = 3) : CN l yX3_number1 cX3_number1 2 (some .int) (k2_rm 0 0) eI (fun b => [.ref (b + a0), .int x1]) M (f_X3_number1 M a0 x1) := by
  refine CN.of RX3 (fun b => [(0, .ref (b + a0)), (1, .int x1)]) (by decide) rfl (fun b => Nat.le_of_ble_eq_true rfl) (fun b => rfl) ?_
  intro p e s m args below meth c D T b hC
  unfold f_X3_number1
  refine n_iload_n hC 1 rfl dX3_number1_0 ?_
  refine n_if_lt hC 11 dX3_number1_1 (by decide) ?_ ?_
  · refine n_iconst hC (0 : Int32) (by decide) dX3_number1_11 ?_
    refine n_goto hC (tgt := 25) (by decide) dX3_number1_12 ?_
    exact n_iret hC dX3_number1_25
  refine n_iload_n hC 1 rfl dX3_number1_4 ?_
  refine n_sipush hC (2000 : Int32) (by decide) dX3_number1_5 ?_
  refine n_icmp_lt hC 15 dX3_number1_8 (by decide) ?_ ?_
  · refine n_aload_n hC 0 rfl dX3_number1_15 ?_
    refine n_get hC clX3 h0 0 (.ref (b + (rf a0 0))) (by decide) rfl fl_X3_9 rfl dX3_number1_16 ?_
    refine n_iload_n hC 1 rfl dX3_number1_19 ?_
    refine n_bald hC (kf_X3_0 h0) dX3_number1_20 (fun g1 => ?_)
    refine n_sipush hC (255 : Int32) (by decide) dX3_number1_21 ?_
    refine n_iand hC dX3_number1_24 ?_
    exact n_iret hC dX3_number1_25
  refine n_iconst hC (0 : Int32) (by decide) dX3_number1_11 ?_
  refine n_goto hC (tgt := 25) (by decide) dX3_number1_12 ?_
  exact n_iret hC dX3_number1_25
def g_X3_copyTo_3 (kx : Int32 → Me → Option (Unit × Me)) (kb : Int32 × Me → Option (Unit × Me)) (a0 : Nat) (x1 : Int32) (x2 : Int32) (a3 : Nat) (x4 : Int32) (x5 : Int32) (M : Me) : Option (Unit × Me) := if x2 ≤ x5 then kx x5 M else if (nI (ln a3)) ≤ (x4 + x5) then kx x5 M else cal (f_X3_number1 M a0 (x1 + x5)) (fun r1 M2 => chk (x4 + x5) (ln a3) (bnd (sI M2 a3 (x4 + x5).toNatClampNeg (vp_nar .byte r1.toInt8.toInt32)) (fun M3 => bndV (x5 + (1 : Int32)) (fun v4 => kb (v4, M3)))))
set_option maxHeartbeats 4000000 in
set_option maxRecDepth 100000 in
theorem b_X3_copyTo_3_g {p : Program} {l : Launch} {e : Env} {s : State} {m : MethodId} {args : Array Value} {below : List Frame} {meth : Method} {c : Code} {D : va_G} {T : Nat → ClassId} {b : Nat} (hC : CX p s m args meth c cX3_copyTo 6 RX3 none D T) (a0 : Nat) (x1 : Int32) (x2 : Int32) (a3 : Nat) (x4 : Int32) (x5 : Int32) (h0 : kd a0 = 3) (h3 : kd a3 = 6) (kx : Int32 → Me → Option (Unit × Me)) (hkx : ∀ (x5 : Int32) (M : Me), GN p l e (k2_rm 1 21) s m args below meth c D T b 6 eV 41 [] [] M (kx x5 M)) (kb : Int32 × Me → Option (Unit × Me)) (hkb : ∀ z : Int32 × Me, GN p l e (k2_rm 1 21) s m args below meth c D T b 6 eV 3 [(0, .ref (b + a0)), (1, .int x1), (2, .int x2), (3, .ref (b + a3)), (4, .int x4), (5, .int z.1)] [] z.2 (kb z)) (M : Me) : GN p l e (k2_rm 1 21) s m args below meth c D T b 6 eV 3 [(0, .ref (b + a0)), (1, .int x1), (2, .int x2), (3, .ref (b + a3)), (4, .int x4), (5, .int x5)] [] M (g_X3_copyTo_3 kx kb a0 x1 x2 a3 x4 x5 M) := by
  unfold g_X3_copyTo_3
  refine n_iload hC 5 rfl dX3_copyTo_3 ?_
  refine n_iload_n hC 2 rfl dX3_copyTo_5 ?_
  refine n_icmp_ge hC 41 dX3_copyTo_6 (by decide) ?_ ?_
  · exact GN.sub [] rfl (hkx x5 M)
  refine n_iload hC 4 rfl dX3_copyTo_9 ?_
  refine n_iload hC 5 rfl dX3_copyTo_11 ?_
  refine n_iadd hC dX3_copyTo_13 ?_
  refine n_aload_n hC 3 rfl dX3_copyTo_14 ?_
  refine n_alen hC h3 (by decide) dX3_copyTo_15 ?_
  refine n_icmp_ge hC 41 dX3_copyTo_16 (by decide) ?_ ?_
  · exact GN.sub [] rfl (hkx x5 M)
  refine n_aload_n hC 3 rfl dX3_copyTo_19 ?_
  refine n_iload hC 4 rfl dX3_copyTo_20 ?_
  refine n_iload hC 5 rfl dX3_copyTo_22 ?_
  refine n_iadd hC dX3_copyTo_24 ?_
  refine n_aload_n hC 0 rfl dX3_copyTo_25 ?_
  refine n_iload_n hC 1 rfl dX3_copyTo_26 ?_
  refine n_iload hC 5 rfl dX3_copyTo_27 ?_
  refine n_iadd hC dX3_copyTo_29 ?_
  refine n_callVi (As := [.int (x1 + x5)]) (rest := [.int (x4 + x5), .ref (b + a3)]) h0 rfl (by decide) hC (c_X3_number1 l M a0 (x1 + x5) h0) my_X3_number1 ml_X3_19 rfl rfl rfl (Nat.le_of_ble_eq_true rfl) ⟨by decide, by decide⟩ dX3_copyTo_30 (fun r1 M2 => ?_)
  refine n_i2b hC dX3_copyTo_33 ?_
  refine n_bast hC h3 dX3_copyTo_34 (fun M3 => ?_)
  refine n_iincB hC (1 : Int32) (by decide) (fun v4 => [(5, .int v4), (0, .ref (b + a0)), (1, .int x1), (2, .int x2), (3, .ref (b + a3)), (4, .int x4)]) 5 rfl (by decide) (fun _ => rfl) dX3_copyTo_35 (fun v4 => ?_)
  refine n_goto hC (tgt := 3) (by decide) dX3_copyTo_38 ?_
  exact GN.sub [1, 2, 3, 4, 5, 0] rfl (hkb (v4, M3))
def l_X3_copyTo_3 (kx : Int32 → Me → Option (Unit × Me)) (a0 : Nat) (x1 : Int32) (x2 : Int32) (a3 : Nat) (x4 : Int32) (x5 : Int32) (M : Me) : Option (Unit × Me) := lp (fun kb z => g_X3_copyTo_3 kx kb a0 x1 x2 a3 x4 z.1 z.2) FU (x5, M)
set_option maxHeartbeats 4000000 in
set_option maxRecDepth 100000 in
theorem b_X3_copyTo_3 {p : Program} {l : Launch} {e : Env} {s : State} {m : MethodId} {args : Array Value} {below : List Frame} {meth : Method} {c : Code} {D : va_G} {T : Nat → ClassId} {b : Nat} (hC : CX p s m args meth c cX3_copyTo 6 RX3 none D T) (a0 : Nat) (x1 : Int32) (x2 : Int32) (a3 : Nat) (x4 : Int32) (x5 : Int32) (h0 : kd a0 = 3) (h3 : kd a3 = 6) (kx : Int32 → Me → Option (Unit × Me)) (hkx : ∀ (x5 : Int32) (M : Me), GN p l e (k2_rm 1 21) s m args below meth c D T b 6 eV 41 [] [] M (kx x5 M)) (M : Me) : GN p l e (k2_rm 1 21) s m args below meth c D T b 6 eV 3 [(0, .ref (b + a0)), (1, .int x1), (2, .int x2), (3, .ref (b + a3)), (4, .int x4), (5, .int x5)] [] M (l_X3_copyTo_3 kx a0 x1 x2 a3 x4 x5 M) := by
  exact n_loop (σ := Int32 × Me) (fun z => [(0, .ref (b + a0)), (1, .int x1), (2, .int x2), (3, .ref (b + a3)), (4, .int x4), (5, .int z.1)]) (fun z => z.2) (fun kb hkb z => b_X3_copyTo_3_g hC a0 x1 x2 a3 x4 z.1 h0 h3 kx hkx kb hkb z.2) FU (x5, M)
def f_X3_copyTo (M : Me) (a0 : Nat) (x1 : Int32) (x2 : Int32) (a3 : Nat) (x4 : Int32) : Option (Unit × Me) := l_X3_copyTo_3 (fun v5 M6 => some ((), M6)) a0 x1 x2 a3 x4 (0 : Int32) M
set_option maxHeartbeats 4000000 in
set_option maxRecDepth 100000 in
theorem c_X3_copyTo (l : Launch) (M : Me) (a0 : Nat) (x1 : Int32) (x2 : Int32) (a3 : Nat) (x4 : Int32) (h0 : kd a0 = 3) (h3 : kd a3 = 6) : CN l yX3_copyTo cX3_copyTo 6 none (k2_rm 1 21) eV (fun b => [.ref (b + a0), .int x1, .int x2, .ref (b + a3), .int x4]) M (f_X3_copyTo M a0 x1 x2 a3 x4) := by
  refine CN.of RX3 (fun b => [(0, .ref (b + a0)), (1, .int x1), (2, .int x2), (3, .ref (b + a3)), (4, .int x4)]) (by decide) rfl (fun b => Nat.le_of_ble_eq_true rfl) (fun b => rfl) ?_
  intro p e s m args below meth c D T b hC
  unfold f_X3_copyTo
  refine n_iconst hC (0 : Int32) (by decide) dX3_copyTo_0 ?_
  refine n_istore hC [(5, .int (0 : Int32)), (0, .ref (b + a0)), (1, .int x1), (2, .int x2), (3, .ref (b + a3)), (4, .int x4)] (by decide) rfl dX3_copyTo_1 ?_
  refine GN.sub [1, 2, 3, 4, 5, 0] rfl (b_X3_copyTo_3 hC a0 x1 x2 a3 x4 (0 : Int32) h0 h3 _ (fun v5 M6 => ?_) M)
  exact n_vret hC dX3_copyTo_41
def f_X3_number2 (M : Me) (a0 : Nat) (x1 : Int32) : Option (Int32 × Me) := cal (f_X3_number1 M a0 x1) (fun r1 M2 => cal (f_X3_number1 M2 a0 (x1 + (1 : Int32))) (fun r3 M4 => some ((r1 ||| (r3 <<< ((8 : Int32) &&& 31))), M4)))
set_option maxHeartbeats 4000000 in
set_option maxRecDepth 100000 in
theorem c_X3_number2 (l : Launch) (M : Me) (a0 : Nat) (x1 : Int32) (h0 : kd a0 = 3) : CN l yX3_number2 cX3_number2 2 (some .int) (k2_rm 1 21) eI (fun b => [.ref (b + a0), .int x1]) M (f_X3_number2 M a0 x1) := by
  refine CN.of RX3 (fun b => [(0, .ref (b + a0)), (1, .int x1)]) (by decide) rfl (fun b => Nat.le_of_ble_eq_true rfl) (fun b => rfl) ?_
  intro p e s m args below meth c D T b hC
  unfold f_X3_number2
  refine n_aload_n hC 0 rfl dX3_number2_0 ?_
  refine n_iload_n hC 1 rfl dX3_number2_1 ?_
  refine n_callVi (As := [.int x1]) (rest := []) h0 rfl (by decide) hC (c_X3_number1 l M a0 x1 h0) my_X3_number1 ml_X3_19 rfl rfl rfl (Nat.le_of_ble_eq_true rfl) ⟨by decide, by decide⟩ dX3_number2_2 (fun r1 M2 => ?_)
  refine n_aload_n hC 0 rfl dX3_number2_5 ?_
  refine n_iload_n hC 1 rfl dX3_number2_6 ?_
  refine n_iconst hC (1 : Int32) (by decide) dX3_number2_7 ?_
  refine n_iadd hC dX3_number2_8 ?_
  refine n_callVi (As := [.int (x1 + (1 : Int32))]) (rest := [.int r1]) h0 rfl (by decide) hC (c_X3_number1 l M2 a0 (x1 + (1 : Int32)) h0) my_X3_number1 ml_X3_19 rfl rfl rfl (Nat.le_of_ble_eq_true rfl) ⟨by decide, by decide⟩ dX3_number2_9 (fun r3 M4 => ?_)
  refine n_bipush hC (8 : Int32) (by decide) dX3_number2_12 ?_
  refine n_ishl hC dX3_number2_14 ?_
  refine n_ior hC dX3_number2_15 ?_
  exact n_iret hC dX3_number2_16
def g_X3_longNumber_5 (kx : Int64 → Int32 → Me → Option (Int64 × Me)) (kb : Int64 × Int32 × Me → Option (Int64 × Me)) (a0 : Nat) (x1 : Int32) (x2 : Int32) (y3 : Int64) (x5 : Int32) (M : Me) : Option (Int64 × Me) := if x2 ≤ x5 then kx y3 x5 M else cal (f_X3_number1 M a0 (x1 + x5)) (fun r1 M2 => bndV (y3 ||| (lShl r1.toInt64 ((8 : Int32) * x5))) (fun v3 => bndV (x5 + (1 : Int32)) (fun v4 => kb (v3, v4, M2))))
set_option maxHeartbeats 4000000 in
set_option maxRecDepth 100000 in
theorem b_X3_longNumber_5_g {p : Program} {l : Launch} {e : Env} {s : State} {m : MethodId} {args : Array Value} {below : List Frame} {meth : Method} {c : Code} {D : va_G} {T : Nat → ClassId} {b : Nat} (hC : CX p s m args meth c cX3_longNumber 6 RX3 (some .long) D T) (a0 : Nat) (x1 : Int32) (x2 : Int32) (y3 : Int64) (x5 : Int32) (h0 : kd a0 = 3) (kx : Int64 → Int32 → Me → Option (Int64 × Me)) (hkx : ∀ (y3 : Int64) (x5 : Int32) (M : Me), GN p l e (k2_rm 1 21) s m args below meth c D T b 6 eL 35 [(3, .long y3)] [] M (kx y3 x5 M)) (kb : Int64 × Int32 × Me → Option (Int64 × Me)) (hkb : ∀ z : Int64 × Int32 × Me, GN p l e (k2_rm 1 21) s m args below meth c D T b 6 eL 5 [(0, .ref (b + a0)), (1, .int x1), (2, .int x2), (3, .long z.1), (5, .int z.2.1)] [] z.2.2 (kb z)) (M : Me) : GN p l e (k2_rm 1 21) s m args below meth c D T b 6 eL 5 [(0, .ref (b + a0)), (1, .int x1), (2, .int x2), (3, .long y3), (5, .int x5)] [] M (g_X3_longNumber_5 kx kb a0 x1 x2 y3 x5 M) := by
  unfold g_X3_longNumber_5
  refine n_iload hC 4 rfl dX3_longNumber_5 ?_
  refine n_iload_n hC 2 rfl dX3_longNumber_7 ?_
  refine n_icmp_ge hC 35 dX3_longNumber_8 (by decide) ?_ ?_
  · exact GN.sub [3] rfl (hkx y3 x5 M)
  refine n_lload_n hC 3 rfl dX3_longNumber_11 ?_
  refine n_aload_n hC 0 rfl dX3_longNumber_12 ?_
  refine n_iload_n hC 1 rfl dX3_longNumber_13 ?_
  refine n_iload hC 4 rfl dX3_longNumber_14 ?_
  refine n_iadd hC dX3_longNumber_16 ?_
  refine n_callVi (As := [.int (x1 + x5)]) (rest := [.long y3]) h0 rfl (by decide) hC (c_X3_number1 l M a0 (x1 + x5) h0) my_X3_number1 ml_X3_19 rfl rfl rfl (Nat.le_of_ble_eq_true rfl) ⟨by decide, by decide⟩ dX3_longNumber_17 (fun r1 M2 => ?_)
  refine n_i2l hC dX3_longNumber_20 ?_
  refine n_bipush hC (8 : Int32) (by decide) dX3_longNumber_21 ?_
  refine n_iload hC 4 rfl dX3_longNumber_23 ?_
  refine n_imul hC dX3_longNumber_25 ?_
  refine n_lshl hC dX3_longNumber_26 ?_
  refine n_lor hC dX3_longNumber_27 ?_
  refine n_lstB_n hC rfl (fun v3 => [(3, .long v3), (0, .ref (b + a0)), (1, .int x1), (2, .int x2), (5, .int x5)]) (by decide) (fun _ => rfl) dX3_longNumber_28 (fun v3 => ?_)
  refine n_iincB hC (1 : Int32) (by decide) (fun v4 => [(5, .int v4), (3, .long v3), (0, .ref (b + a0)), (1, .int x1), (2, .int x2)]) 4 rfl (by decide) (fun _ => rfl) dX3_longNumber_29 (fun v4 => ?_)
  refine n_goto hC (tgt := 5) (by decide) dX3_longNumber_32 ?_
  exact GN.sub [2, 3, 4, 1, 0] rfl (hkb (v3, v4, M2))
def l_X3_longNumber_5 (kx : Int64 → Int32 → Me → Option (Int64 × Me)) (a0 : Nat) (x1 : Int32) (x2 : Int32) (y3 : Int64) (x5 : Int32) (M : Me) : Option (Int64 × Me) := lp (fun kb z => g_X3_longNumber_5 kx kb a0 x1 x2 z.1 z.2.1 z.2.2) FU (y3, x5, M)
set_option maxHeartbeats 4000000 in
set_option maxRecDepth 100000 in
theorem b_X3_longNumber_5 {p : Program} {l : Launch} {e : Env} {s : State} {m : MethodId} {args : Array Value} {below : List Frame} {meth : Method} {c : Code} {D : va_G} {T : Nat → ClassId} {b : Nat} (hC : CX p s m args meth c cX3_longNumber 6 RX3 (some .long) D T) (a0 : Nat) (x1 : Int32) (x2 : Int32) (y3 : Int64) (x5 : Int32) (h0 : kd a0 = 3) (kx : Int64 → Int32 → Me → Option (Int64 × Me)) (hkx : ∀ (y3 : Int64) (x5 : Int32) (M : Me), GN p l e (k2_rm 1 21) s m args below meth c D T b 6 eL 35 [(3, .long y3)] [] M (kx y3 x5 M)) (M : Me) : GN p l e (k2_rm 1 21) s m args below meth c D T b 6 eL 5 [(0, .ref (b + a0)), (1, .int x1), (2, .int x2), (3, .long y3), (5, .int x5)] [] M (l_X3_longNumber_5 kx a0 x1 x2 y3 x5 M) := by
  exact n_loop (σ := Int64 × Int32 × Me) (fun z => [(0, .ref (b + a0)), (1, .int x1), (2, .int x2), (3, .long z.1), (5, .int z.2.1)]) (fun z => z.2.2) (fun kb hkb z => b_X3_longNumber_5_g hC a0 x1 x2 z.1 z.2.1 h0 kx hkx kb hkb z.2.2) FU (y3, x5, M)
def f_X3_longNumber (M : Me) (a0 : Nat) (x1 : Int32) (x2 : Int32) : Option (Int64 × Me) := l_X3_longNumber_5 (fun v5 v6 M7 => some (v5, M7)) a0 x1 x2 (0 : Int64) (0 : Int32) M
set_option maxHeartbeats 4000000 in
set_option maxRecDepth 100000 in
theorem c_X3_longNumber (l : Launch) (M : Me) (a0 : Nat) (x1 : Int32) (x2 : Int32) (h0 : kd a0 = 3) : CN l yX3_longNumber cX3_longNumber 6 (some .long) (k2_rm 1 21) eL (fun b => [.ref (b + a0), .int x1, .int x2]) M (f_X3_longNumber M a0 x1 x2) := by
  refine CN.of RX3 (fun b => [(0, .ref (b + a0)), (1, .int x1), (2, .int x2)]) (by decide) rfl (fun b => Nat.le_of_ble_eq_true rfl) (fun b => rfl) ?_
  intro p e s m args below meth c D T b hC
  unfold f_X3_longNumber
  refine n_lconst hC (0 : Int64) (by decide) dX3_longNumber_0 ?_
  refine n_lstore_n hC rfl [(3, .long (0 : Int64)), (0, .ref (b + a0)), (1, .int x1), (2, .int x2)] (by decide) rfl dX3_longNumber_1 ?_
  refine n_iconst hC (0 : Int32) (by decide) dX3_longNumber_2 ?_
  refine n_istore hC [(5, .int (0 : Int32)), (3, .long (0 : Int64)), (0, .ref (b + a0)), (1, .int x1), (2, .int x2)] (by decide) rfl dX3_longNumber_3 ?_
  refine GN.sub [2, 3, 4, 1, 0] rfl (b_X3_longNumber_5 hC a0 x1 x2 (0 : Int64) (0 : Int32) h0 _ (fun v5 v6 M7 => ?_) M)
  refine n_lload_n hC 0 rfl dX3_longNumber_35 ?_
  exact n_lret hC dX3_longNumber_36
def f_X3_number4 (M : Me) (a0 : Nat) (x1 : Int32) : Option (Int64 × Me) := cal (f_X3_longNumber M a0 x1 (4 : Int32)) (fun r1 M2 => some (r1, M2))
set_option maxHeartbeats 4000000 in
set_option maxRecDepth 100000 in
theorem c_X3_number4 (l : Launch) (M : Me) (a0 : Nat) (x1 : Int32) (h0 : kd a0 = 3) : CN l yX3_number4 cX3_number4 2 (some .long) (k2_rm 2 46) eL (fun b => [.ref (b + a0), .int x1]) M (f_X3_number4 M a0 x1) := by
  refine CN.of RX3 (fun b => [(0, .ref (b + a0)), (1, .int x1)]) (by decide) rfl (fun b => Nat.le_of_ble_eq_true rfl) (fun b => rfl) ?_
  intro p e s m args below meth c D T b hC
  unfold f_X3_number4
  refine n_aload_n hC 0 rfl dX3_number4_0 ?_
  refine n_iload_n hC 1 rfl dX3_number4_1 ?_
  refine n_iconst hC (4 : Int32) (by decide) dX3_number4_2 ?_
  refine n_callVl (As := [.int x1, .int (4 : Int32)]) (rest := []) h0 rfl (by decide) hC (c_X3_longNumber l M a0 x1 (4 : Int32) h0) my_X3_longNumber ml_X3_23 rfl rfl rfl (Nat.le_of_ble_eq_true rfl) ⟨by decide, by decide⟩ dX3_number4_3 (fun r1 M2 => ?_)
  exact n_lret hC dX3_number4_6
def g_X3_isSame_3 (kx : Int32 → Me → Option (Int32 × Me)) (kb : Int32 × Me → Option (Int32 × Me)) (a0 : Nat) (x1 : Int32) (x2 : Int32) (x3 : Int32) (x4 : Int32) (M : Me) : Option (Int32 × Me) := if x3 ≤ x4 then kx x4 M else cal (f_X3_number1 M a0 (x1 + x4)) (fun r1 M2 => cal (f_X3_number1 M2 a0 (x2 + x4)) (fun r3 M4 => if r1 = r3 then bndV (x4 + (1 : Int32)) (fun v5 => kb (v5, M4)) else chZ (0 : Int32) (some ((0 : Int32), M4))))
set_option maxHeartbeats 4000000 in
set_option maxRecDepth 100000 in
theorem b_X3_isSame_3_g {p : Program} {l : Launch} {e : Env} {s : State} {m : MethodId} {args : Array Value} {below : List Frame} {meth : Method} {c : Code} {D : va_G} {T : Nat → ClassId} {b : Nat} (hC : CX p s m args meth c cX3_isSame 5 RX3 (some .boolean) D T) (a0 : Nat) (x1 : Int32) (x2 : Int32) (x3 : Int32) (x4 : Int32) (h0 : kd a0 = 3) (kx : Int32 → Me → Option (Int32 × Me)) (hkx : ∀ (x4 : Int32) (M : Me), GN p l e (k2_rm 1 21) s m args below meth c D T b 5 eI 36 [] [] M (kx x4 M)) (kb : Int32 × Me → Option (Int32 × Me)) (hkb : ∀ z : Int32 × Me, GN p l e (k2_rm 1 21) s m args below meth c D T b 5 eI 3 [(0, .ref (b + a0)), (1, .int x1), (2, .int x2), (3, .int x3), (4, .int z.1)] [] z.2 (kb z)) (M : Me) : GN p l e (k2_rm 1 21) s m args below meth c D T b 5 eI 3 [(0, .ref (b + a0)), (1, .int x1), (2, .int x2), (3, .int x3), (4, .int x4)] [] M (g_X3_isSame_3 kx kb a0 x1 x2 x3 x4 M) := by
  unfold g_X3_isSame_3
  refine n_iload hC 4 rfl dX3_isSame_3 ?_
  refine n_iload_n hC 3 rfl dX3_isSame_5 ?_
  refine n_icmp_ge hC 36 dX3_isSame_6 (by decide) ?_ ?_
  · exact GN.sub [] rfl (hkx x4 M)
  refine n_aload_n hC 0 rfl dX3_isSame_9 ?_
  refine n_iload_n hC 1 rfl dX3_isSame_10 ?_
  refine n_iload hC 4 rfl dX3_isSame_11 ?_
  refine n_iadd hC dX3_isSame_13 ?_
  refine n_callVi (As := [.int (x1 + x4)]) (rest := []) h0 rfl (by decide) hC (c_X3_number1 l M a0 (x1 + x4) h0) my_X3_number1 ml_X3_19 rfl rfl rfl (Nat.le_of_ble_eq_true rfl) ⟨by decide, by decide⟩ dX3_isSame_14 (fun r1 M2 => ?_)
  refine n_aload_n hC 0 rfl dX3_isSame_17 ?_
  refine n_iload_n hC 2 rfl dX3_isSame_18 ?_
  refine n_iload hC 4 rfl dX3_isSame_19 ?_
  refine n_iadd hC dX3_isSame_21 ?_
  refine n_callVi (As := [.int (x2 + x4)]) (rest := [.int r1]) h0 rfl (by decide) hC (c_X3_number1 l M2 a0 (x2 + x4) h0) my_X3_number1 ml_X3_19 rfl rfl rfl (Nat.le_of_ble_eq_true rfl) ⟨by decide, by decide⟩ dX3_isSame_22 (fun r3 M4 => ?_)
  refine n_icmp_eq hC 30 dX3_isSame_25 (by decide) ?_ ?_
  · refine n_iincB hC (1 : Int32) (by decide) (fun v5 => [(4, .int v5), (0, .ref (b + a0)), (1, .int x1), (2, .int x2), (3, .int x3)]) 4 rfl (by decide) (fun _ => rfl) dX3_isSame_30 (fun v5 => ?_)
    refine n_goto hC (tgt := 3) (by decide) dX3_isSame_33 ?_
    exact GN.sub [1, 2, 3, 4, 0] rfl (hkb (v5, M4))
  refine n_iconst hC (0 : Int32) (by decide) dX3_isSame_28 ?_
  exact n_zret hC dX3_isSame_29
def l_X3_isSame_3 (kx : Int32 → Me → Option (Int32 × Me)) (a0 : Nat) (x1 : Int32) (x2 : Int32) (x3 : Int32) (x4 : Int32) (M : Me) : Option (Int32 × Me) := lp (fun kb z => g_X3_isSame_3 kx kb a0 x1 x2 x3 z.1 z.2) FU (x4, M)
set_option maxHeartbeats 4000000 in
set_option maxRecDepth 100000 in
theorem b_X3_isSame_3 {p : Program} {l : Launch} {e : Env} {s : State} {m : MethodId} {args : Array Value} {below : List Frame} {meth : Method} {c : Code} {D : va_G} {T : Nat → ClassId} {b : Nat} (hC : CX p s m args meth c cX3_isSame 5 RX3 (some .boolean) D T) (a0 : Nat) (x1 : Int32) (x2 : Int32) (x3 : Int32) (x4 : Int32) (h0 : kd a0 = 3) (kx : Int32 → Me → Option (Int32 × Me)) (hkx : ∀ (x4 : Int32) (M : Me), GN p l e (k2_rm 1 21) s m args below meth c D T b 5 eI 36 [] [] M (kx x4 M)) (M : Me) : GN p l e (k2_rm 1 21) s m args below meth c D T b 5 eI 3 [(0, .ref (b + a0)), (1, .int x1), (2, .int x2), (3, .int x3), (4, .int x4)] [] M (l_X3_isSame_3 kx a0 x1 x2 x3 x4 M) := by
  exact n_loop (σ := Int32 × Me) (fun z => [(0, .ref (b + a0)), (1, .int x1), (2, .int x2), (3, .int x3), (4, .int z.1)]) (fun z => z.2) (fun kb hkb z => b_X3_isSame_3_g hC a0 x1 x2 x3 z.1 h0 kx hkx kb hkb z.2) FU (x4, M)
def f_X3_isSame (M : Me) (a0 : Nat) (x1 : Int32) (x2 : Int32) (x3 : Int32) : Option (Int32 × Me) := l_X3_isSame_3 (fun v6 M7 => chZ (1 : Int32) (some ((1 : Int32), M7))) a0 x1 x2 x3 (0 : Int32) M
set_option maxHeartbeats 4000000 in
set_option maxRecDepth 100000 in
theorem c_X3_isSame (l : Launch) (M : Me) (a0 : Nat) (x1 : Int32) (x2 : Int32) (x3 : Int32) (h0 : kd a0 = 3) : CN l yX3_isSame cX3_isSame 5 (some .boolean) (k2_rm 1 21) eI (fun b => [.ref (b + a0), .int x1, .int x2, .int x3]) M (f_X3_isSame M a0 x1 x2 x3) := by
  refine CN.of RX3 (fun b => [(0, .ref (b + a0)), (1, .int x1), (2, .int x2), (3, .int x3)]) (by decide) rfl (fun b => Nat.le_of_ble_eq_true rfl) (fun b => rfl) ?_
  intro p e s m args below meth c D T b hC
  unfold f_X3_isSame
  refine n_iconst hC (0 : Int32) (by decide) dX3_isSame_0 ?_
  refine n_istore hC [(4, .int (0 : Int32)), (0, .ref (b + a0)), (1, .int x1), (2, .int x2), (3, .int x3)] (by decide) rfl dX3_isSame_1 ?_
  refine GN.sub [1, 2, 3, 4, 0] rfl (b_X3_isSame_3 hC a0 x1 x2 x3 (0 : Int32) h0 _ (fun v6 M7 => ?_) M)
  refine n_iconst hC (1 : Int32) (by decide) dX3_isSame_36 ?_
  exact n_zret hC dX3_isSame_37
def f_X3_number8 (M : Me) (a0 : Nat) (x1 : Int32) : Option (Int64 × Me) := cal (f_X3_longNumber M a0 x1 (8 : Int32)) (fun r1 M2 => some (r1, M2))
set_option maxHeartbeats 4000000 in
set_option maxRecDepth 100000 in
theorem c_X3_number8 (l : Launch) (M : Me) (a0 : Nat) (x1 : Int32) (h0 : kd a0 = 3) : CN l yX3_number8 cX3_number8 2 (some .long) (k2_rm 2 46) eL (fun b => [.ref (b + a0), .int x1]) M (f_X3_number8 M a0 x1) := by
  refine CN.of RX3 (fun b => [(0, .ref (b + a0)), (1, .int x1)]) (by decide) rfl (fun b => Nat.le_of_ble_eq_true rfl) (fun b => rfl) ?_
  intro p e s m args below meth c D T b hC
  unfold f_X3_number8
  refine n_aload_n hC 0 rfl dX3_number8_0 ?_
  refine n_iload_n hC 1 rfl dX3_number8_1 ?_
  refine n_bipush hC (8 : Int32) (by decide) dX3_number8_2 ?_
  refine n_callVl (As := [.int x1, .int (8 : Int32)]) (rest := []) h0 rfl (by decide) hC (c_X3_longNumber l M a0 x1 (8 : Int32) h0) my_X3_longNumber ml_X3_23 rfl rfl rfl (Nat.le_of_ble_eq_true rfl) ⟨by decide, by decide⟩ dX3_number8_4 (fun r1 M2 => ?_)
  exact n_lret hC dX3_number8_7
def f_X3_holds (M : Me) (a0 : Nat) (x1 : Int32) (x2 : Int32) : Option (Int32 × Me) := if x1 < (0 : Int32) then chZ (0 : Int32) (some ((0 : Int32), M)) else if ((M.1 a0 1) - x2) < x1 then chZ (0 : Int32) (some ((0 : Int32), M)) else chZ (1 : Int32) (some ((1 : Int32), M))
set_option maxHeartbeats 4000000 in
set_option maxRecDepth 100000 in
theorem c_X3_holds (l : Launch) (M : Me) (a0 : Nat) (x1 : Int32) (x2 : Int32) (h0 : kd a0 = 3) : CN l yX3_holds cX3_holds 3 (some .boolean) (k2_rm 0 0) eI (fun b => [.ref (b + a0), .int x1, .int x2]) M (f_X3_holds M a0 x1 x2) := by
  refine CN.of RX3 (fun b => [(0, .ref (b + a0)), (1, .int x1), (2, .int x2)]) (by decide) rfl (fun b => Nat.le_of_ble_eq_true rfl) (fun b => rfl) ?_
  intro p e s m args below meth c D T b hC
  unfold f_X3_holds
  refine n_iload_n hC 1 rfl dX3_holds_0 ?_
  refine n_if_lt hC 18 dX3_holds_1 (by decide) ?_ ?_
  · refine n_iconst hC (0 : Int32) (by decide) dX3_holds_18 ?_
    exact n_zret hC dX3_holds_19
  refine n_iload_n hC 1 rfl dX3_holds_4 ?_
  refine n_aload_n hC 0 rfl dX3_holds_5 ?_
  refine n_get hC clX3 h0 1 (.int (M.1 a0 1)) (by decide) rfl fl_X3_15 rfl dX3_holds_6 ?_
  refine n_iload_n hC 2 rfl dX3_holds_9 ?_
  refine n_isub hC dX3_holds_10 ?_
  refine n_icmp_gt hC 18 dX3_holds_11 (by decide) ?_ ?_
  · refine n_iconst hC (0 : Int32) (by decide) dX3_holds_18 ?_
    exact n_zret hC dX3_holds_19
  refine n_iconst hC (1 : Int32) (by decide) dX3_holds_14 ?_
  refine n_goto hC (tgt := 19) (by decide) dX3_holds_15 ?_
  exact n_zret hC dX3_holds_19
