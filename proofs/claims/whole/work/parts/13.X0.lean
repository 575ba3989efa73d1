def f_X0_begin (M : Me) (a0 : Nat) (x1 : Int32) (x2 : Int32) : Option (Unit × Me) := bnd (sI M a0 5 x1) (fun M1 => bnd (sI M1 a0 6 x2) (fun M2 => bnd (sI M2 a0 7 (0 : Int32)) (fun M3 => bnd (sI M3 a0 8 (0 : Int32)) (fun M4 => bnd (sI M4 a0 9 (0 : Int32)) (fun M5 => chZ (0 : Int32) (bnd (sI M5 a0 10 (0 : Int32)) (fun M6 => chZ (0 : Int32) (bnd (sI M6 a0 11 (0 : Int32)) (fun M7 => bnd (sI M7 a0 12 (0 : Int32)) (fun M8 => bnd (sI M8 a0 13 (0 : Int32)) (fun M9 => bnd (sI M9 a0 14 (0 : Int32)) (fun M10 => bnd (sI M10 a0 15 (0 : Int32)) (fun M11 => bnd (sI M11 a0 16 (0 : Int32)) (fun M12 => bnd (sI M12 a0 17 (-1 : Int32)) (fun M13 => if x1 = (2 : Int32) then chk (0 : Int32) (ln (rf a0 0)) (bnd (sI M13 (rf a0 0) (0 : Int32).toNatClampNeg (vp_nar .byte (47 : Int32))) (fun M14 => bnd (sI M14 a0 7 (1 : Int32)) (fun M15 => some ((), M15)))) else some ((), M13))))))))))))))))
set_option maxHeartbeats 4000000 in
set_option maxRecDepth 100000 in
theorem c_X0_begin (l : Launch) (M : Me) (a0 : Nat) (x1 : Int32) (x2 : Int32) (h0 : kd a0 = 0) : CN l yX0_begin cX0_begin 3 none (k2_rm 0 0) eV (fun b => [.ref (b + a0), .int x1, .int x2]) M (f_X0_begin M a0 x1 x2) := by
  refine CN.of RX0 (fun b => [(0, .ref (b + a0)), (1, .int x1), (2, .int x2)]) (by decide) rfl (fun b => Nat.le_of_ble_eq_true rfl) (fun b => rfl) ?_
  intro p e s m args below meth c D T b hC
  unfold f_X0_begin
  refine n_aload_n hC 0 rfl dX0_begin_0 ?_
  refine n_iload_n hC 1 rfl dX0_begin_1 ?_
  refine n_putI hC clX0 h0 5 (by decide) rfl rfl rfl fl_X0_28 dX0_begin_2 (fun M1 => ?_)
  refine n_aload_n hC 0 rfl dX0_begin_5 ?_
  refine n_iload_n hC 2 rfl dX0_begin_6 ?_
  refine n_putI hC clX0 h0 6 (by decide) rfl rfl rfl fl_X0_32 dX0_begin_7 (fun M2 => ?_)
  refine n_aload_n hC 0 rfl dX0_begin_10 ?_
  refine n_iconst hC (0 : Int32) (by decide) dX0_begin_11 ?_
  refine n_putI hC clX0 h0 7 (by decide) rfl rfl rfl fl_X0_35 dX0_begin_12 (fun M3 => ?_)
  refine n_aload_n hC 0 rfl dX0_begin_15 ?_
  refine n_iconst hC (0 : Int32) (by decide) dX0_begin_16 ?_
  refine n_putI hC clX0 h0 8 (by decide) rfl rfl rfl fl_X0_38 dX0_begin_17 (fun M4 => ?_)
  refine n_aload_n hC 0 rfl dX0_begin_20 ?_
  refine n_iconst hC (0 : Int32) (by decide) dX0_begin_21 ?_
  refine n_putI hC clX0 h0 9 (by decide) rfl rfl rfl fl_X0_41 dX0_begin_22 (fun M5 => ?_)
  refine n_aload_n hC 0 rfl dX0_begin_25 ?_
  refine n_iconst hC (0 : Int32) (by decide) dX0_begin_26 ?_
  refine n_putZ hC clX0 h0 10 (by decide) rfl rfl rfl fl_X0_44 dX0_begin_27 (fun M6 => ?_)
  refine n_aload_n hC 0 rfl dX0_begin_30 ?_
  refine n_iconst hC (0 : Int32) (by decide) dX0_begin_31 ?_
  refine n_putZ hC clX0 h0 11 (by decide) rfl rfl rfl fl_X0_48 dX0_begin_32 (fun M7 => ?_)
  refine n_aload_n hC 0 rfl dX0_begin_35 ?_
  refine n_iconst hC (0 : Int32) (by decide) dX0_begin_36 ?_
  refine n_putI hC clX0 h0 12 (by decide) rfl rfl rfl fl_X0_51 dX0_begin_37 (fun M8 => ?_)
  refine n_aload_n hC 0 rfl dX0_begin_40 ?_
  refine n_iconst hC (0 : Int32) (by decide) dX0_begin_41 ?_
  refine n_putI hC clX0 h0 13 (by decide) rfl rfl rfl fl_X0_54 dX0_begin_42 (fun M9 => ?_)
  refine n_aload_n hC 0 rfl dX0_begin_45 ?_
  refine n_iconst hC (0 : Int32) (by decide) dX0_begin_46 ?_
  refine n_putI hC clX0 h0 14 (by decide) rfl rfl rfl fl_X0_57 dX0_begin_47 (fun M10 => ?_)
  refine n_aload_n hC 0 rfl dX0_begin_50 ?_
  refine n_iconst hC (0 : Int32) (by decide) dX0_begin_51 ?_
  refine n_putI hC clX0 h0 15 (by decide) rfl rfl rfl fl_X0_60 dX0_begin_52 (fun M11 => ?_)
  refine n_aload_n hC 0 rfl dX0_begin_55 ?_
  refine n_iconst hC (0 : Int32) (by decide) dX0_begin_56 ?_
  refine n_putI hC clX0 h0 16 (by decide) rfl rfl rfl fl_X0_63 dX0_begin_57 (fun M12 => ?_)
  refine n_aload_n hC 0 rfl dX0_begin_60 ?_
  refine n_iconst hC (-1 : Int32) (by decide) dX0_begin_61 ?_
  refine n_putI hC clX0 h0 17 (by decide) rfl rfl rfl fl_X0_66 dX0_begin_62 (fun M13 => ?_)
  refine n_iload_n hC 1 rfl dX0_begin_65 ?_
  refine n_iconst hC (2 : Int32) (by decide) dX0_begin_66 ?_
  refine n_icmp_ne hC 83 dX0_begin_67 (by decide) ?_ ?_
  · exact n_vret hC dX0_begin_83
  refine n_aload_n hC 0 rfl dX0_begin_70 ?_
  refine n_get hC clX0 h0 0 (.ref (b + (rf a0 0))) (by decide) rfl fl_X0_9 rfl dX0_begin_71 ?_
  refine n_iconst hC (0 : Int32) (by decide) dX0_begin_74 ?_
  refine n_bipush hC (47 : Int32) (by decide) dX0_begin_75 ?_
  refine n_bast hC (kf_X0_0 h0) dX0_begin_77 (fun M14 => ?_)
  refine n_aload_n hC 0 rfl dX0_begin_78 ?_
  refine n_iconst hC (1 : Int32) (by decide) dX0_begin_79 ?_
  refine n_putI hC clX0 h0 7 (by decide) rfl rfl rfl fl_X0_35 dX0_begin_80 (fun M15 => ?_)
  exact n_vret hC dX0_begin_83
def j_X0_lengthenName_13 (a0 : Nat) (y1 : Int64) (x3 : Int32) (s0 : Int32) (M : Me) : Option (Unit × Me) := cal (f_X4_spread M y1 x3 (rf a0 0) ((M.1 a0 7) - s0)) (fun _ M2 => bnd (sI M2 a0 7 ((M2.1 a0 7) + x3)) (fun M3 => if s0 = (1 : Int32) then if (16 : Int32) < (M3.1 a0 7) then some ((), M3) else chk ((M3.1 a0 7) - (1 : Int32)) (ln (rf a0 0)) (bnd (sI M3 (rf a0 0) ((M3.1 a0 7) - (1 : Int32)).toNatClampNeg (vp_nar .byte (47 : Int32))) (fun M4 => some ((), M4))) else some ((), M3)))
set_option maxHeartbeats 4000000 in
set_option maxRecDepth 100000 in
theorem b_X0_lengthenName_13 {p : Program} {l : Launch} {e : Env} {s : State} {m : MethodId} {args : Array Value} {below : List Frame} {meth : Method} {c : Code} {D : va_G} {T : Nat → ClassId} {b : Nat} (hC : CX p s m args meth c cX0_lengthenName 5 RX0 none D T) (a0 : Nat) (y1 : Int64) (x3 : Int32) (s0 : Int32) (h0 : kd a0 = 0) (M : Me) : GN p l e (k2_rm 2 48) s m args below meth c D T b 5 eV 13 [(0, .ref (b + a0)), (1, .long y1), (3, .int x3)] [.int s0] M (j_X0_lengthenName_13 a0 y1 x3 s0 M) := by
  unfold j_X0_lengthenName_13
  refine n_istore hC [(4, .int s0), (0, .ref (b + a0)), (1, .long y1), (3, .int x3)] (by decide) rfl dX0_lengthenName_13 ?_
  refine n_lload_n hC 2 rfl dX0_lengthenName_15 ?_
  refine n_iload_n hC 3 rfl dX0_lengthenName_16 ?_
  refine n_aload_n hC 1 rfl dX0_lengthenName_17 ?_
  refine n_get hC clX0 h0 0 (.ref (b + (rf a0 0))) (by decide) rfl fl_X0_9 rfl dX0_lengthenName_18 ?_
  refine n_aload_n hC 1 rfl dX0_lengthenName_21 ?_
  refine n_get hC clX0 h0 7 (.int (M.1 a0 7)) (by decide) rfl fl_X0_35 rfl dX0_lengthenName_22 ?_
  refine n_iload hC 0 rfl dX0_lengthenName_25 ?_
  refine n_isub hC dX0_lengthenName_27 ?_
  refine n_callNv (As := [.long y1, .int x3, .ref (b + (rf a0 0)), .int ((M.1 a0 7) - s0)]) (rest := []) hC (c_X4_spread l M y1 x3 (rf a0 0) ((M.1 a0 7) - s0) (kf_X0_0 h0)) my_X4_spread mn_X0_69 rfl rfl rfl (Nat.le_of_ble_eq_true rfl) ⟨by decide, by decide⟩ dX0_lengthenName_28 (fun r1 M2 => ?_)
  refine n_aload_n hC 1 rfl dX0_lengthenName_31 ?_
  refine n_dup hC rfl dX0_lengthenName_32 ?_
  refine n_get hC clX0 h0 7 (.int (M2.1 a0 7)) (by decide) rfl fl_X0_35 rfl dX0_lengthenName_33 ?_
  refine n_iload_n hC 3 rfl dX0_lengthenName_36 ?_
  refine n_iadd hC dX0_lengthenName_37 ?_
  refine n_putI hC clX0 h0 7 (by decide) rfl rfl rfl fl_X0_35 dX0_lengthenName_38 (fun M3 => ?_)
  refine n_iload hC 0 rfl dX0_lengthenName_41 ?_
  refine n_iconst hC (1 : Int32) (by decide) dX0_lengthenName_43 ?_
  refine n_icmp_ne hC 69 dX0_lengthenName_44 (by decide) ?_ ?_
  · exact n_vret hC dX0_lengthenName_69
  refine n_aload_n hC 1 rfl dX0_lengthenName_47 ?_
  refine n_get hC clX0 h0 7 (.int (M3.1 a0 7)) (by decide) rfl fl_X0_35 rfl dX0_lengthenName_48 ?_
  refine n_bipush hC (16 : Int32) (by decide) dX0_lengthenName_51 ?_
  refine n_icmp_gt hC 69 dX0_lengthenName_53 (by decide) ?_ ?_
  · exact n_vret hC dX0_lengthenName_69
  refine n_aload_n hC 1 rfl dX0_lengthenName_56 ?_
  refine n_get hC clX0 h0 0 (.ref (b + (rf a0 0))) (by decide) rfl fl_X0_9 rfl dX0_lengthenName_57 ?_
  refine n_aload_n hC 1 rfl dX0_lengthenName_60 ?_
  refine n_get hC clX0 h0 7 (.int (M3.1 a0 7)) (by decide) rfl fl_X0_35 rfl dX0_lengthenName_61 ?_
  refine n_iconst hC (1 : Int32) (by decide) dX0_lengthenName_64 ?_
  refine n_isub hC dX0_lengthenName_65 ?_
  refine n_bipush hC (47 : Int32) (by decide) dX0_lengthenName_66 ?_
  refine n_bast hC (kf_X0_0 h0) dX0_lengthenName_68 (fun M4 => ?_)
  exact n_vret hC dX0_lengthenName_69
def f_X0_lengthenName (M : Me) (a0 : Nat) (y1 : Int64) (x3 : Int32) : Option (Unit × Me) := if (M.1 a0 5) = (2 : Int32) then j_X0_lengthenName_13 a0 y1 x3 (1 : Int32) M else j_X0_lengthenName_13 a0 y1 x3 (0 : Int32) M
set_option maxHeartbeats 4000000 in
set_option maxRecDepth 100000 in
theorem c_X0_lengthenName (l : Launch) (M : Me) (a0 : Nat) (y1 : Int64) (x3 : Int32) (h0 : kd a0 = 0) : CN l yX0_lengthenName cX0_lengthenName 5 none (k2_rm 2 48) eV (fun b => [.ref (b + a0), .long y1, .int x3]) M (f_X0_lengthenName M a0 y1 x3) := by
  refine CN.of RX0 (fun b => [(0, .ref (b + a0)), (1, .long y1), (3, .int x3)]) (by decide) rfl (fun b => Nat.le_of_ble_eq_true rfl) (fun b => rfl) ?_
  intro p e s m args below meth c D T b hC
  unfold f_X0_lengthenName
  refine n_aload_n hC 0 rfl dX0_lengthenName_0 ?_
  refine n_get hC clX0 h0 5 (.int (M.1 a0 5)) (by decide) rfl fl_X0_28 rfl dX0_lengthenName_1 ?_
  refine n_iconst hC (2 : Int32) (by decide) dX0_lengthenName_4 ?_
  refine n_icmp_ne hC 12 dX0_lengthenName_5 (by decide) ?_ ?_
  · refine n_iconst hC (0 : Int32) (by decide) dX0_lengthenName_12 ?_
    exact GN.sub [0, 1, 2] rfl (b_X0_lengthenName_13 hC a0 y1 x3 (0 : Int32) h0 M)
  refine n_iconst hC (1 : Int32) (by decide) dX0_lengthenName_8 ?_
  refine n_goto hC (tgt := 13) (by decide) dX0_lengthenName_9 ?_
  exact GN.sub [0, 1, 2] rfl (b_X0_lengthenName_13 hC a0 y1 x3 (1 : Int32) h0 M)
def f_X0_lacksData (M : Me) (a0 : Nat) : Option (Int32 × Me) := if (M.1 a0 5) = (2 : Int32) then chZ (0 : Int32) (some ((0 : Int32), M)) else if (M.1 a0 10) = (0 : Int32) then chZ (1 : Int32) (some ((1 : Int32), M)) else chZ (0 : Int32) (some ((0 : Int32), M))
set_option maxHeartbeats 4000000 in
set_option maxRecDepth 100000 in
theorem c_X0_lacksData (l : Launch) (M : Me) (a0 : Nat) (h0 : kd a0 = 0) : CN l yX0_lacksData cX0_lacksData 1 (some .boolean) (k2_rm 0 0) eI (fun b => [.ref (b + a0)]) M (f_X0_lacksData M a0) := by
  refine CN.of RX0 (fun b => [(0, .ref (b + a0))]) (by decide) rfl (fun b => Nat.le_of_ble_eq_true rfl) (fun b => rfl) ?_
  intro p e s m args below meth c D T b hC
  unfold f_X0_lacksData
  refine n_aload_n hC 0 rfl dX0_lacksData_0 ?_
  refine n_get hC clX0 h0 5 (.int (M.1 a0 5)) (by decide) rfl fl_X0_28 rfl dX0_lacksData_1 ?_
  refine n_iconst hC (2 : Int32) (by decide) dX0_lacksData_4 ?_
  refine n_icmp_eq hC 19 dX0_lacksData_5 (by decide) ?_ ?_
  · refine n_iconst hC (0 : Int32) (by decide) dX0_lacksData_19 ?_
    exact n_zret hC dX0_lacksData_20
  refine n_aload_n hC 0 rfl dX0_lacksData_8 ?_
  refine n_get hC clX0 h0 10 (.int (M.1 a0 10)) (by decide) rfl fl_X0_44 rfl dX0_lacksData_9 ?_
  refine n_if_ne hC 19 dX0_lacksData_12 (by decide) ?_ ?_
  · refine n_iconst hC (0 : Int32) (by decide) dX0_lacksData_19 ?_
    exact n_zret hC dX0_lacksData_20
  refine n_iconst hC (1 : Int32) (by decide) dX0_lacksData_15 ?_
  refine n_goto hC (tgt := 20) (by decide) dX0_lacksData_16 ?_
  exact n_zret hC dX0_lacksData_20
def g_X0_hasNameOf_15 (kx : Int32 → Me → Option (Int32 × Me)) (kb : Int32 × Me → Option (Int32 × Me)) (a0 : Nat) (a1 : Nat) (x2 : Int32) (M : Me) : Option (Int32 × Me) := if (M.1 a0 7) ≤ x2 then kx x2 M else if (16 : Int32) ≤ x2 then kx x2 M else chk x2 (ln (rf a0 0)) (chk x2 (ln (rf a1 0)) (if (M.1 (rf a0 0) x2.toNatClampNeg) = (M.1 (rf a1 0) x2.toNatClampNeg) then bndV (x2 + (1 : Int32)) (fun v3 => kb (v3, M)) else chZ (0 : Int32) (some ((0 : Int32), M))))
set_option maxHeartbeats 4000000 in
set_option maxRecDepth 100000 in
theorem b_X0_hasNameOf_15_g {p : Program} {l : Launch} {e : Env} {s : State} {m : MethodId} {args : Array Value} {below : List Frame} {meth : Method} {c : Code} {D : va_G} {T : Nat → ClassId} {b : Nat} (hC : CX p s m args meth c cX0_hasNameOf 3 RX0 (some .boolean) D T) (a0 : Nat) (a1 : Nat) (x2 : Int32) (h0 : kd a0 = 0) (h1 : kd a1 = 0) (kx : Int32 → Me → Option (Int32 × Me)) (hkx : ∀ (x2 : Int32) (M : Me), GN p l e (k2_rm 0 0) s m args below meth c D T b 3 eI 52 [] [] M (kx x2 M)) (kb : Int32 × Me → Option (Int32 × Me)) (hkb : ∀ z : Int32 × Me, GN p l e (k2_rm 0 0) s m args below meth c D T b 3 eI 15 [(0, .ref (b + a0)), (1, .ref (b + a1)), (2, .int z.1)] [] z.2 (kb z)) (M : Me) : GN p l e (k2_rm 0 0) s m args below meth c D T b 3 eI 15 [(0, .ref (b + a0)), (1, .ref (b + a1)), (2, .int x2)] [] M (g_X0_hasNameOf_15 kx kb a0 a1 x2 M) := by
  unfold g_X0_hasNameOf_15
  refine n_iload_n hC 2 rfl dX0_hasNameOf_15 ?_
  refine n_aload_n hC 0 rfl dX0_hasNameOf_16 ?_
  refine n_get hC clX0 h0 7 (.int (M.1 a0 7)) (by decide) rfl fl_X0_35 rfl dX0_hasNameOf_17 ?_
  refine n_icmp_ge hC 52 dX0_hasNameOf_20 (by decide) ?_ ?_
  · exact GN.sub [] rfl (hkx x2 M)
  refine n_iload_n hC 2 rfl dX0_hasNameOf_23 ?_
  refine n_bipush hC (16 : Int32) (by decide) dX0_hasNameOf_24 ?_
  refine n_icmp_ge hC 52 dX0_hasNameOf_26 (by decide) ?_ ?_
  · exact GN.sub [] rfl (hkx x2 M)
  refine n_aload_n hC 0 rfl dX0_hasNameOf_29 ?_
  refine n_get hC clX0 h0 0 (.ref (b + (rf a0 0))) (by decide) rfl fl_X0_9 rfl dX0_hasNameOf_30 ?_
  refine n_iload_n hC 2 rfl dX0_hasNameOf_33 ?_
  refine n_bald hC (kf_X0_0 h0) dX0_hasNameOf_34 (fun g1 => ?_)
  refine n_aload_n hC 1 rfl dX0_hasNameOf_35 ?_
  refine n_get hC clX0 h1 0 (.ref (b + (rf a1 0))) (by decide) rfl fl_X0_9 rfl dX0_hasNameOf_36 ?_
  refine n_iload_n hC 2 rfl dX0_hasNameOf_39 ?_
  refine n_bald hC (kf_X0_0 h1) dX0_hasNameOf_40 (fun g2 => ?_)
  refine n_icmp_eq hC 46 dX0_hasNameOf_41 (by decide) ?_ ?_
  · refine n_iincB hC (1 : Int32) (by decide) (fun v3 => [(2, .int v3), (0, .ref (b + a0)), (1, .ref (b + a1))]) 2 rfl (by decide) (fun _ => rfl) dX0_hasNameOf_46 (fun v3 => ?_)
    refine n_goto hC (tgt := 15) (by decide) dX0_hasNameOf_49 ?_
    exact GN.sub [1, 2, 0] rfl (hkb (v3, M))
  refine n_iconst hC (0 : Int32) (by decide) dX0_hasNameOf_44 ?_
  exact n_zret hC dX0_hasNameOf_45
def l_X0_hasNameOf_15 (kx : Int32 → Me → Option (Int32 × Me)) (a0 : Nat) (a1 : Nat) (x2 : Int32) (M : Me) : Option (Int32 × Me) := lp (fun kb z => g_X0_hasNameOf_15 kx kb a0 a1 z.1 z.2) FU (x2, M)
set_option maxHeartbeats 4000000 in
set_option maxRecDepth 100000 in
theorem b_X0_hasNameOf_15 {p : Program} {l : Launch} {e : Env} {s : State} {m : MethodId} {args : Array Value} {below : List Frame} {meth : Method} {c : Code} {D : va_G} {T : Nat → ClassId} {b : Nat} (hC : CX p s m args meth c cX0_hasNameOf 3 RX0 (some .boolean) D T) (a0 : Nat) (a1 : Nat) (x2 : Int32) (h0 : kd a0 = 0) (h1 : kd a1 = 0) (kx : Int32 → Me → Option (Int32 × Me)) (hkx : ∀ (x2 : Int32) (M : Me), GN p l e (k2_rm 0 0) s m args below meth c D T b 3 eI 52 [] [] M (kx x2 M)) (M : Me) : GN p l e (k2_rm 0 0) s m args below meth c D T b 3 eI 15 [(0, .ref (b + a0)), (1, .ref (b + a1)), (2, .int x2)] [] M (l_X0_hasNameOf_15 kx a0 a1 x2 M) := by
  exact n_loop (σ := Int32 × Me) (fun z => [(0, .ref (b + a0)), (1, .ref (b + a1)), (2, .int z.1)]) (fun z => z.2) (fun kb hkb z => b_X0_hasNameOf_15_g hC a0 a1 z.1 h0 h1 kx hkx kb hkb z.2) FU (x2, M)
def f_X0_hasNameOf (M : Me) (a0 : Nat) (a1 : Nat) : Option (Int32 × Me) := if (M.1 a0 7) = (M.1 a1 7) then l_X0_hasNameOf_15 (fun v4 M5 => chZ (1 : Int32) (some ((1 : Int32), M5))) a0 a1 (0 : Int32) M else chZ (0 : Int32) (some ((0 : Int32), M))
set_option maxHeartbeats 4000000 in
set_option maxRecDepth 100000 in
theorem c_X0_hasNameOf (l : Launch) (M : Me) (a0 : Nat) (a1 : Nat) (h0 : kd a0 = 0) (h1 : kd a1 = 0) : CN l yX0_hasNameOf cX0_hasNameOf 3 (some .boolean) (k2_rm 0 0) eI (fun b => [.ref (b + a0), .ref (b + a1)]) M (f_X0_hasNameOf M a0 a1) := by
  refine CN.of RX0 (fun b => [(0, .ref (b + a0)), (1, .ref (b + a1))]) (by decide) rfl (fun b => Nat.le_of_ble_eq_true rfl) (fun b => rfl) ?_
  intro p e s m args below meth c D T b hC
  unfold f_X0_hasNameOf
  refine n_aload_n hC 0 rfl dX0_hasNameOf_0 ?_
  refine n_get hC clX0 h0 7 (.int (M.1 a0 7)) (by decide) rfl fl_X0_35 rfl dX0_hasNameOf_1 ?_
  refine n_aload_n hC 1 rfl dX0_hasNameOf_4 ?_
  refine n_get hC clX0 h1 7 (.int (M.1 a1 7)) (by decide) rfl fl_X0_35 rfl dX0_hasNameOf_5 ?_
  refine n_icmp_eq hC 13 dX0_hasNameOf_8 (by decide) ?_ ?_
  · refine n_iconst hC (0 : Int32) (by decide) dX0_hasNameOf_13 ?_
    refine n_istore_n hC rfl [(2, .int (0 : Int32)), (0, .ref (b + a0)), (1, .ref (b + a1))] (by decide) rfl dX0_hasNameOf_14 ?_
    refine GN.sub [1, 2, 0] rfl (b_X0_hasNameOf_15 hC a0 a1 (0 : Int32) h0 h1 _ (fun v4 M5 => ?_) M)
    refine n_iconst hC (1 : Int32) (by decide) dX0_hasNameOf_52 ?_
    exact n_zret hC dX0_hasNameOf_53
  refine n_iconst hC (0 : Int32) (by decide) dX0_hasNameOf_11 ?_
  exact n_zret hC dX0_hasNameOf_12
def f_X0_flags (M : Me) (a0 : Nat) : Option (Int32 × Me) := if (M.1 a0 6) = (1 : Int32) then some ((8 : Int32), M) else some ((0 : Int32), M)
set_option maxHeartbeats 4000000 in
set_option maxRecDepth 100000 in
theorem c_X0_flags (l : Launch) (M : Me) (a0 : Nat) (h0 : kd a0 = 0) : CN l yX0_flags cX0_flags 1 (some .int) (k2_rm 0 0) eI (fun b => [.ref (b + a0)]) M (f_X0_flags M a0) := by
  refine CN.of RX0 (fun b => [(0, .ref (b + a0))]) (by decide) rfl (fun b => Nat.le_of_ble_eq_true rfl) (fun b => rfl) ?_
  intro p e s m args below meth c D T b hC
  unfold f_X0_flags
  refine n_aload_n hC 0 rfl dX0_flags_0 ?_
  refine n_get hC clX0 h0 6 (.int (M.1 a0 6)) (by decide) rfl fl_X0_32 rfl dX0_flags_1 ?_
  refine n_iconst hC (1 : Int32) (by decide) dX0_flags_4 ?_
  refine n_icmp_ne hC 13 dX0_flags_5 (by decide) ?_ ?_
  · refine n_iconst hC (0 : Int32) (by decide) dX0_flags_13 ?_
    exact n_iret hC dX0_flags_14
  refine n_bipush hC (8 : Int32) (by decide) dX0_flags_8 ?_
  refine n_goto hC (tgt := 14) (by decide) dX0_flags_10 ?_
  exact n_iret hC dX0_flags_14
def f_X0_method (M : Me) (a0 : Nat) : Option (Int32 × Me) := if (M.1 a0 5) = (1 : Int32) then some ((8 : Int32), M) else some ((0 : Int32), M)
set_option maxHeartbeats 4000000 in
set_option maxRecDepth 100000 in
theorem c_X0_method (l : Launch) (M : Me) (a0 : Nat) (h0 : kd a0 = 0) : CN l yX0_method cX0_method 1 (some .int) (k2_rm 0 0) eI (fun b => [.ref (b + a0)]) M (f_X0_method M a0) := by
  refine CN.of RX0 (fun b => [(0, .ref (b + a0))]) (by decide) rfl (fun b => Nat.le_of_ble_eq_true rfl) (fun b => rfl) ?_
  intro p e s m args below meth c D T b hC
  unfold f_X0_method
  refine n_aload_n hC 0 rfl dX0_method_0 ?_
  refine n_get hC clX0 h0 5 (.int (M.1 a0 5)) (by decide) rfl fl_X0_28 rfl dX0_method_1 ?_
  refine n_iconst hC (1 : Int32) (by decide) dX0_method_4 ?_
  refine n_icmp_ne hC 13 dX0_method_5 (by decide) ?_ ?_
  · refine n_iconst hC (0 : Int32) (by decide) dX0_method_13 ?_
    exact n_iret hC dX0_method_14
  refine n_bipush hC (8 : Int32) (by decide) dX0_method_8 ?_
  refine n_goto hC (tgt := 14) (by decide) dX0_method_10 ?_
  exact n_iret hC dX0_method_14
def f_X0_trueSize (M : Me) (a0 : Nat) : Option (Int32 × Me) := if (M.1 a0 5) = (1 : Int32) then some ((M.1 a0 12), M) else some ((M.1 a0 8), M)
set_option maxHeartbeats 4000000 in
set_option maxRecDepth 100000 in
theorem c_X0_trueSize (l : Launch) (M : Me) (a0 : Nat) (h0 : kd a0 = 0) : CN l yX0_trueSize cX0_trueSize 1 (some .int) (k2_rm 0 0) eI (fun b => [.ref (b + a0)]) M (f_X0_trueSize M a0) := by
  refine CN.of RX0 (fun b => [(0, .ref (b + a0))]) (by decide) rfl (fun b => Nat.le_of_ble_eq_true rfl) (fun b => rfl) ?_
  intro p e s m args below meth c D T b hC
  unfold f_X0_trueSize
  refine n_aload_n hC 0 rfl dX0_trueSize_0 ?_
  refine n_get hC clX0 h0 5 (.int (M.1 a0 5)) (by decide) rfl fl_X0_28 rfl dX0_trueSize_1 ?_
  refine n_iconst hC (1 : Int32) (by decide) dX0_trueSize_4 ?_
  refine n_icmp_ne hC 15 dX0_trueSize_5 (by decide) ?_ ?_
  · refine n_aload_n hC 0 rfl dX0_trueSize_15 ?_
    refine n_get hC clX0 h0 8 (.int (M.1 a0 8)) (by decide) rfl fl_X0_38 rfl dX0_trueSize_16 ?_
    exact n_iret hC dX0_trueSize_19
  refine n_aload_n hC 0 rfl dX0_trueSize_8 ?_
  refine n_get hC clX0 h0 12 (.int (M.1 a0 12)) (by decide) rfl fl_X0_51 rfl dX0_trueSize_9 ?_
  refine n_goto hC (tgt := 19) (by decide) dX0_trueSize_12 ?_
  exact n_iret hC dX0_trueSize_19
def f_X0_sum (M : Me) (a0 : Nat) : Option (Int32 × Me) := if (M.1 a0 5) = (2 : Int32) then some ((0 : Int32), M) else if (M.1 a0 5) = (1 : Int32) then some ((M.1 a0 13), M) else if (M.1 a0 11) = (0 : Int32) then cal (f_X4_sumOf M (rf a0 1) (M.1 a0 8)) (fun r1 M2 => some (r1, M2)) else some ((M.1 a0 13), M)
set_option maxHeartbeats 4000000 in
set_option maxRecDepth 100000 in
theorem c_X0_sum (l : Launch) (M : Me) (a0 : Nat) (h0 : kd a0 = 0) : CN l yX0_sum cX0_sum 1 (some .int) (k2_rm 1 24) eI (fun b => [.ref (b + a0)]) M (f_X0_sum M a0) := by
  refine CN.of RX0 (fun b => [(0, .ref (b + a0))]) (by decide) rfl (fun b => Nat.le_of_ble_eq_true rfl) (fun b => rfl) ?_
  intro p e s m args below meth c D T b hC
  unfold f_X0_sum
  refine n_aload_n hC 0 rfl dX0_sum_0 ?_
  refine n_get hC clX0 h0 5 (.int (M.1 a0 5)) (by decide) rfl fl_X0_28 rfl dX0_sum_1 ?_
  refine n_iconst hC (2 : Int32) (by decide) dX0_sum_4 ?_
  refine n_icmp_ne hC 10 dX0_sum_5 (by decide) ?_ ?_
  · refine n_aload_n hC 0 rfl dX0_sum_10 ?_
    refine n_get hC clX0 h0 5 (.int (M.1 a0 5)) (by decide) rfl fl_X0_28 rfl dX0_sum_11 ?_
    refine n_iconst hC (1 : Int32) (by decide) dX0_sum_14 ?_
    refine n_icmp_eq hC 25 dX0_sum_15 (by decide) ?_ ?_
    · refine n_aload_n hC 0 rfl dX0_sum_25 ?_
      refine n_get hC clX0 h0 13 (.int (M.1 a0 13)) (by decide) rfl fl_X0_54 rfl dX0_sum_26 ?_
      refine n_goto hC (tgt := 43) (by decide) dX0_sum_29 ?_
      exact n_iret hC dX0_sum_43
    refine n_aload_n hC 0 rfl dX0_sum_18 ?_
    refine n_get hC clX0 h0 11 (.int (M.1 a0 11)) (by decide) rfl fl_X0_48 rfl dX0_sum_19 ?_
    refine n_if_eq hC 32 dX0_sum_22 (by decide) ?_ ?_
    · refine n_aload_n hC 0 rfl dX0_sum_32 ?_
      refine n_get hC clX0 h0 1 (.ref (b + (rf a0 1))) (by decide) rfl fl_X0_15 rfl dX0_sum_33 ?_
      refine n_aload_n hC 0 rfl dX0_sum_36 ?_
      refine n_get hC clX0 h0 8 (.int (M.1 a0 8)) (by decide) rfl fl_X0_38 rfl dX0_sum_37 ?_
      refine n_callNi (As := [.ref (b + (rf a0 1)), .int (M.1 a0 8)]) (rest := []) hC (c_X4_sumOf l M (rf a0 1) (M.1 a0 8) (kf_X0_1 h0)) my_X4_sumOf mn_X0_73 rfl rfl rfl (Nat.le_of_ble_eq_true rfl) ⟨by decide, by decide⟩ dX0_sum_40 (fun r1 M2 => ?_)
      exact n_iret hC dX0_sum_43
    refine n_aload_n hC 0 rfl dX0_sum_25 ?_
    refine n_get hC clX0 h0 13 (.int (M.1 a0 13)) (by decide) rfl fl_X0_54 rfl dX0_sum_26 ?_
    refine n_goto hC (tgt := 43) (by decide) dX0_sum_29 ?_
    exact n_iret hC dX0_sum_43
  refine n_iconst hC (0 : Int32) (by decide) dX0_sum_8 ?_
  exact n_iret hC dX0_sum_9
def g_X0_extraLength_17 (kx : Int32 → Int32 → Me → Option (Int32 × Me)) (kb : Int32 × Int32 × Me → Option (Int32 × Me)) (a0 : Nat) (x1 : Int32) (x2 : Int32) (M : Me) : Option (Int32 × Me) := if (M.1 a0 9) ≤ x2 then kx x1 x2 M else if (3 : Int32) ≤ x2 then kx x1 x2 M else chk x2 (ln (rf a0 3)) (bndV (x1 + ((4 : Int32) + (M.1 (rf a0 3) x2.toNatClampNeg))) (fun v2 => bndV (x2 + (1 : Int32)) (fun v3 => kb (v2, v3, M))))
set_option maxHeartbeats 4000000 in
set_option maxRecDepth 100000 in
theorem b_X0_extraLength_17_g {p : Program} {l : Launch} {e : Env} {s : State} {m : MethodId} {args : Array Value} {below : List Frame} {meth : Method} {c : Code} {D : va_G} {T : Nat → ClassId} {b : Nat} (hC : CX p s m args meth c cX0_extraLength 3 RX0 (some .int) D T) (a0 : Nat) (x1 : Int32) (x2 : Int32) (h0 : kd a0 = 0) (kx : Int32 → Int32 → Me → Option (Int32 × Me)) (hkx : ∀ (x1 : Int32) (x2 : Int32) (M : Me), GN p l e (k2_rm 0 0) s m args below meth c D T b 3 eI 47 [(1, .int x1)] [] M (kx x1 x2 M)) (kb : Int32 × Int32 × Me → Option (Int32 × Me)) (hkb : ∀ z : Int32 × Int32 × Me, GN p l e (k2_rm 0 0) s m args below meth c D T b 3 eI 17 [(0, .ref (b + a0)), (1, .int z.1), (2, .int z.2.1)] [] z.2.2 (kb z)) (M : Me) : GN p l e (k2_rm 0 0) s m args below meth c D T b 3 eI 17 [(0, .ref (b + a0)), (1, .int x1), (2, .int x2)] [] M (g_X0_extraLength_17 kx kb a0 x1 x2 M) := by
  unfold g_X0_extraLength_17
  refine n_iload_n hC 2 rfl dX0_extraLength_17 ?_
  refine n_aload_n hC 0 rfl dX0_extraLength_18 ?_
  refine n_get hC clX0 h0 9 (.int (M.1 a0 9)) (by decide) rfl fl_X0_41 rfl dX0_extraLength_19 ?_
  refine n_icmp_ge hC 47 dX0_extraLength_22 (by decide) ?_ ?_
  · exact GN.sub [1] rfl (hkx x1 x2 M)
  refine n_iload_n hC 2 rfl dX0_extraLength_25 ?_
  refine n_iconst hC (3 : Int32) (by decide) dX0_extraLength_26 ?_
  refine n_icmp_ge hC 47 dX0_extraLength_27 (by decide) ?_ ?_
  · exact GN.sub [1] rfl (hkx x1 x2 M)
  refine n_iload_n hC 1 rfl dX0_extraLength_30 ?_
  refine n_iconst hC (4 : Int32) (by decide) dX0_extraLength_31 ?_
  refine n_aload_n hC 0 rfl dX0_extraLength_32 ?_
  refine n_get hC clX0 h0 3 (.ref (b + (rf a0 3))) (by decide) rfl fl_X0_22 rfl dX0_extraLength_33 ?_
  refine n_iload_n hC 2 rfl dX0_extraLength_36 ?_
  refine n_iald hC (kf_X0_3 h0) dX0_extraLength_37 (fun g1 => ?_)
  refine n_iadd hC dX0_extraLength_38 ?_
  refine n_iadd hC dX0_extraLength_39 ?_
  refine n_istB_n hC rfl (fun v2 => [(1, .int v2), (0, .ref (b + a0)), (2, .int x2)]) (by decide) (fun _ => rfl) dX0_extraLength_40 (fun v2 => ?_)
  refine n_iincB hC (1 : Int32) (by decide) (fun v3 => [(2, .int v3), (1, .int v2), (0, .ref (b + a0))]) 2 rfl (by decide) (fun _ => rfl) dX0_extraLength_41 (fun v3 => ?_)
  refine n_goto hC (tgt := 17) (by decide) dX0_extraLength_44 ?_
  exact GN.sub [2, 1, 0] rfl (hkb (v2, v3, M))
def l_X0_extraLength_17 (kx : Int32 → Int32 → Me → Option (Int32 × Me)) (a0 : Nat) (x1 : Int32) (x2 : Int32) (M : Me) : Option (Int32 × Me) := lp (fun kb z => g_X0_extraLength_17 kx kb a0 z.1 z.2.1 z.2.2) FU (x1, x2, M)
set_option maxHeartbeats 4000000 in
set_option maxRecDepth 100000 in
theorem b_X0_extraLength_17 {p : Program} {l : Launch} {e : Env} {s : State} {m : MethodId} {args : Array Value} {below : List Frame} {meth : Method} {c : Code} {D : va_G} {T : Nat → ClassId} {b : Nat} (hC : CX p s m args meth c cX0_extraLength 3 RX0 (some .int) D T) (a0 : Nat) (x1 : Int32) (x2 : Int32) (h0 : kd a0 = 0) (kx : Int32 → Int32 → Me → Option (Int32 × Me)) (hkx : ∀ (x1 : Int32) (x2 : Int32) (M : Me), GN p l e (k2_rm 0 0) s m args below meth c D T b 3 eI 47 [(1, .int x1)] [] M (kx x1 x2 M)) (M : Me) : GN p l e (k2_rm 0 0) s m args below meth c D T b 3 eI 17 [(0, .ref (b + a0)), (1, .int x1), (2, .int x2)] [] M (l_X0_extraLength_17 kx a0 x1 x2 M) := by
  exact n_loop (σ := Int32 × Int32 × Me) (fun z => [(0, .ref (b + a0)), (1, .int z.1), (2, .int z.2.1)]) (fun z => z.2.2) (fun kb hkb z => b_X0_extraLength_17_g hC a0 z.1 z.2.1 h0 kx hkx kb hkb z.2.2) FU (x1, x2, M)
def j_X0_extraLength_14 (a0 : Nat) (s0 : Int32) (M : Me) : Option (Int32 × Me) := l_X0_extraLength_17 (fun v4 v5 M6 => some (v4, M6)) a0 s0 (0 : Int32) M
set_option maxHeartbeats 4000000 in
set_option maxRecDepth 100000 in
theorem b_X0_extraLength_14 {p : Program} {l : Launch} {e : Env} {s : State} {m : MethodId} {args : Array Value} {below : List Frame} {meth : Method} {c : Code} {D : va_G} {T : Nat → ClassId} {b : Nat} (hC : CX p s m args meth c cX0_extraLength 3 RX0 (some .int) D T) (a0 : Nat) (s0 : Int32) (h0 : kd a0 = 0) (M : Me) : GN p l e (k2_rm 0 0) s m args below meth c D T b 3 eI 14 [(0, .ref (b + a0))] [.int s0] M (j_X0_extraLength_14 a0 s0 M) := by
  unfold j_X0_extraLength_14
  refine n_istore_n hC rfl [(1, .int s0), (0, .ref (b + a0))] (by decide) rfl dX0_extraLength_14 ?_
  refine n_iconst hC (0 : Int32) (by decide) dX0_extraLength_15 ?_
  refine n_istore_n hC rfl [(2, .int (0 : Int32)), (1, .int s0), (0, .ref (b + a0))] (by decide) rfl dX0_extraLength_16 ?_
  refine GN.sub [2, 1, 0] rfl (b_X0_extraLength_17 hC a0 s0 (0 : Int32) h0 _ (fun v4 v5 M6 => ?_) M)
  refine n_iload_n hC 0 rfl dX0_extraLength_47 ?_
  exact n_iret hC dX0_extraLength_48
def f_X0_extraLength (M : Me) (a0 : Nat) : Option (Int32 × Me) := if (M.1 a0 6) = (2 : Int32) then j_X0_extraLength_14 a0 (20 : Int32) M else j_X0_extraLength_14 a0 (0 : Int32) M
set_option maxHeartbeats 4000000 in
set_option maxRecDepth 100000 in
theorem c_X0_extraLength (l : Launch) (M : Me) (a0 : Nat) (h0 : kd a0 = 0) : CN l yX0_extraLength cX0_extraLength 3 (some .int) (k2_rm 0 0) eI (fun b => [.ref (b + a0)]) M (f_X0_extraLength M a0) := by
  refine CN.of RX0 (fun b => [(0, .ref (b + a0))]) (by decide) rfl (fun b => Nat.le_of_ble_eq_true rfl) (fun b => rfl) ?_
  intro p e s m args below meth c D T b hC
  unfold f_X0_extraLength
  refine n_aload_n hC 0 rfl dX0_extraLength_0 ?_
  refine n_get hC clX0 h0 6 (.int (M.1 a0 6)) (by decide) rfl fl_X0_32 rfl dX0_extraLength_1 ?_
  refine n_iconst hC (2 : Int32) (by decide) dX0_extraLength_4 ?_
  refine n_icmp_ne hC 13 dX0_extraLength_5 (by decide) ?_ ?_
  · refine n_iconst hC (0 : Int32) (by decide) dX0_extraLength_13 ?_
    exact GN.sub [0] rfl (b_X0_extraLength_14 hC a0 (0 : Int32) h0 M)
  refine n_bipush hC (20 : Int32) (by decide) dX0_extraLength_8 ?_
  refine n_goto hC (tgt := 14) (by decide) dX0_extraLength_10 ?_
  exact GN.sub [0] rfl (b_X0_extraLength_14 hC a0 (20 : Int32) h0 M)
def j_X0_localLength_14 (a0 : Nat) (s0 : Int32) (M : Me) : Option (Int32 × Me) := cal (f_X0_extraLength M a0) (fun r1 M2 => some ((((((30 : Int32) + (M.1 a0 7)) + r1) + (M2.1 a0 8)) + s0), M2))
set_option maxHeartbeats 4000000 in
set_option maxRecDepth 100000 in
theorem b_X0_localLength_14 {p : Program} {l : Launch} {e : Env} {s : State} {m : MethodId} {args : Array Value} {below : List Frame} {meth : Method} {c : Code} {D : va_G} {T : Nat → ClassId} {b : Nat} (hC : CX p s m args meth c cX0_localLength 2 RX0 (some .int) D T) (a0 : Nat) (s0 : Int32) (h0 : kd a0 = 0) (M : Me) : GN p l e (k2_rm 1 22) s m args below meth c D T b 2 eI 14 [(0, .ref (b + a0))] [.int s0] M (j_X0_localLength_14 a0 s0 M) := by
  unfold j_X0_localLength_14
  refine n_istore_n hC rfl [(1, .int s0), (0, .ref (b + a0))] (by decide) rfl dX0_localLength_14 ?_
  refine n_bipush hC (30 : Int32) (by decide) dX0_localLength_15 ?_
  refine n_aload_n hC 1 rfl dX0_localLength_17 ?_
  refine n_get hC clX0 h0 7 (.int (M.1 a0 7)) (by decide) rfl fl_X0_35 rfl dX0_localLength_18 ?_
  refine n_iadd hC dX0_localLength_21 ?_
  refine n_aload_n hC 1 rfl dX0_localLength_22 ?_
  refine n_callVi (As := []) (rest := [.int ((30 : Int32) + (M.1 a0 7))]) h0 rfl (by decide) hC (c_X0_extraLength l M a0 h0) my_X0_extraLength ml_X0_77 rfl rfl rfl (Nat.le_of_ble_eq_true rfl) ⟨by decide, by decide⟩ dX0_localLength_23 (fun r1 M2 => ?_)
  refine n_iadd hC dX0_localLength_26 ?_
  refine n_aload_n hC 1 rfl dX0_localLength_27 ?_
  refine n_get hC clX0 h0 8 (.int (M2.1 a0 8)) (by decide) rfl fl_X0_38 rfl dX0_localLength_28 ?_
  refine n_iadd hC dX0_localLength_31 ?_
  refine n_iload_n hC 0 rfl dX0_localLength_32 ?_
  refine n_iadd hC dX0_localLength_33 ?_
  exact n_iret hC dX0_localLength_34
def f_X0_localLength (M : Me) (a0 : Nat) : Option (Int32 × Me) := if (M.1 a0 6) = (1 : Int32) then j_X0_localLength_14 a0 (16 : Int32) M else j_X0_localLength_14 a0 (0 : Int32) M
set_option maxHeartbeats 4000000 in
set_option maxRecDepth 100000 in
theorem c_X0_localLength (l : Launch) (M : Me) (a0 : Nat) (h0 : kd a0 = 0) : CN l yX0_localLength cX0_localLength 2 (some .int) (k2_rm 1 22) eI (fun b => [.ref (b + a0)]) M (f_X0_localLength M a0) := by
  refine CN.of RX0 (fun b => [(0, .ref (b + a0))]) (by decide) rfl (fun b => Nat.le_of_ble_eq_true rfl) (fun b => rfl) ?_
  intro p e s m args below meth c D T b hC
  unfold f_X0_localLength
  refine n_aload_n hC 0 rfl dX0_localLength_0 ?_
  refine n_get hC clX0 h0 6 (.int (M.1 a0 6)) (by decide) rfl fl_X0_32 rfl dX0_localLength_1 ?_
  refine n_iconst hC (1 : Int32) (by decide) dX0_localLength_4 ?_
  refine n_icmp_ne hC 13 dX0_localLength_5 (by decide) ?_ ?_
  · refine n_iconst hC (0 : Int32) (by decide) dX0_localLength_13 ?_
    exact GN.sub [0] rfl (b_X0_localLength_14 hC a0 (0 : Int32) h0 M)
  refine n_bipush hC (16 : Int32) (by decide) dX0_localLength_8 ?_
  refine n_goto hC (tgt := 14) (by decide) dX0_localLength_10 ?_
  exact GN.sub [0] rfl (b_X0_localLength_14 hC a0 (16 : Int32) h0 M)
def f_X0_centreLength (M : Me) (a0 : Nat) : Option (Int32 × Me) := cal (f_X0_extraLength M a0) (fun r1 M2 => some ((((46 : Int32) + (M.1 a0 7)) + r1), M2))
set_option maxHeartbeats 4000000 in
set_option maxRecDepth 100000 in
theorem c_X0_centreLength (l : Launch) (M : Me) (a0 : Nat) (h0 : kd a0 = 0) : CN l yX0_centreLength cX0_centreLength 1 (some .int) (k2_rm 1 22) eI (fun b => [.ref (b + a0)]) M (f_X0_centreLength M a0) := by
  refine CN.of RX0 (fun b => [(0, .ref (b + a0))]) (by decide) rfl (fun b => Nat.le_of_ble_eq_true rfl) (fun b => rfl) ?_
  intro p e s m args below meth c D T b hC
  unfold f_X0_centreLength
  refine n_bipush hC (46 : Int32) (by decide) dX0_centreLength_0 ?_
  refine n_aload_n hC 0 rfl dX0_centreLength_2 ?_
  refine n_get hC clX0 h0 7 (.int (M.1 a0 7)) (by decide) rfl fl_X0_35 rfl dX0_centreLength_3 ?_
  refine n_iadd hC dX0_centreLength_6 ?_
  refine n_aload_n hC 0 rfl dX0_centreLength_7 ?_
  refine n_callVi (As := []) (rest := [.int ((46 : Int32) + (M.1 a0 7))]) h0 rfl (by decide) hC (c_X0_extraLength l M a0 h0) my_X0_extraLength ml_X0_77 rfl rfl rfl (Nat.le_of_ble_eq_true rfl) ⟨by decide, by decide⟩ dX0_centreLength_8 (fun r1 M2 => ?_)
  refine n_iadd hC dX0_centreLength_11 ?_
  exact n_iret hC dX0_centreLength_12
def j_X0_putKindOfRow_18 (a0 : Nat) (a1 : Nat) (s0 : Int64) (s1 : Nat) (M : Me) : Option (Unit × Me) := cal (f_X3_putNumber M s1 s0 (2 : Int32)) (fun _ M2 => cal (f_X0_flags M2 a0) (fun r3 M4 => cal (f_X3_putNumber M4 a1 r3.toInt64 (2 : Int32)) (fun _ M6 => cal (f_X0_method M6 a0) (fun r7 M8 => cal (f_X3_putNumber M8 a1 r7.toInt64 (2 : Int32)) (fun _ M10 => cal (f_X3_putNumber M10 a1 (((M10.1 a0 14)).toInt64) (2 : Int32)) (fun _ M12 => cal (f_X3_putNumber M12 a1 (((M12.1 a0 15)).toInt64) (2 : Int32)) (fun _ M14 => some ((), M14))))))))
set_option maxHeartbeats 4000000 in
set_option maxRecDepth 100000 in
theorem b_X0_putKindOfRow_18 {p : Program} {l : Launch} {e : Env} {s : State} {m : MethodId} {args : Array Value} {below : List Frame} {meth : Method} {c : Code} {D : va_G} {T : Nat → ClassId} {b : Nat} (hC : CX p s m args meth c cX0_putKindOfRow 2 RX0 none D T) (a0 : Nat) (a1 : Nat) (s0 : Int64) (s1 : Nat) (h0 : kd a0 = 0) (h1 : kd a1 = 3) (hs1 : kd s1 = 3) (M : Me) : GN p l e (k2_rm 2 45) s m args below meth c D T b 2 eV 18 [(0, .ref (b + a0)), (1, .ref (b + a1))] [.long s0, .ref (b + s1)] M (j_X0_putKindOfRow_18 a0 a1 s0 s1 M) := by
  unfold j_X0_putKindOfRow_18
  refine n_iconst hC (2 : Int32) (by decide) dX0_putKindOfRow_18 ?_
  refine n_callVv (As := [.long s0, .int (2 : Int32)]) (rest := []) hs1 rfl (by decide) hC (c_X3_putNumber l M s1 s0 (2 : Int32) hs1) my_X3_putNumber ml_X0_88 rfl rfl rfl (Nat.le_of_ble_eq_true rfl) ⟨by decide, by decide⟩ dX0_putKindOfRow_19 (fun r1 M2 => ?_)
  refine n_aload_n hC 1 rfl dX0_putKindOfRow_22 ?_
  refine n_aload_n hC 0 rfl dX0_putKindOfRow_23 ?_
  refine n_callVi (As := []) (rest := [.ref (b + a1)]) h0 rfl (by decide) hC (c_X0_flags l M2 a0 h0) my_X0_flags ml_X0_114 rfl rfl rfl (Nat.le_of_ble_eq_true rfl) ⟨by decide, by decide⟩ dX0_putKindOfRow_24 (fun r3 M4 => ?_)
  refine n_i2l hC dX0_putKindOfRow_27 ?_
  refine n_iconst hC (2 : Int32) (by decide) dX0_putKindOfRow_28 ?_
  refine n_callVv (As := [.long r3.toInt64, .int (2 : Int32)]) (rest := []) h1 rfl (by decide) hC (c_X3_putNumber l M4 a1 r3.toInt64 (2 : Int32) h1) my_X3_putNumber ml_X0_88 rfl rfl rfl (Nat.le_of_ble_eq_true rfl) ⟨by decide, by decide⟩ dX0_putKindOfRow_29 (fun r5 M6 => ?_)
  refine n_aload_n hC 1 rfl dX0_putKindOfRow_32 ?_
  refine n_aload_n hC 0 rfl dX0_putKindOfRow_33 ?_
  refine n_callVi (As := []) (rest := [.ref (b + a1)]) h0 rfl (by decide) hC (c_X0_method l M6 a0 h0) my_X0_method ml_X0_117 rfl rfl rfl (Nat.le_of_ble_eq_true rfl) ⟨by decide, by decide⟩ dX0_putKindOfRow_34 (fun r7 M8 => ?_)
  refine n_i2l hC dX0_putKindOfRow_37 ?_
  refine n_iconst hC (2 : Int32) (by decide) dX0_putKindOfRow_38 ?_
  refine n_callVv (As := [.long r7.toInt64, .int (2 : Int32)]) (rest := []) h1 rfl (by decide) hC (c_X3_putNumber l M8 a1 r7.toInt64 (2 : Int32) h1) my_X3_putNumber ml_X0_88 rfl rfl rfl (Nat.le_of_ble_eq_true rfl) ⟨by decide, by decide⟩ dX0_putKindOfRow_39 (fun r9 M10 => ?_)
  refine n_aload_n hC 1 rfl dX0_putKindOfRow_42 ?_
  refine n_aload_n hC 0 rfl dX0_putKindOfRow_43 ?_
  refine n_get hC clX0 h0 14 (.int (M10.1 a0 14)) (by decide) rfl fl_X0_57 rfl dX0_putKindOfRow_44 ?_
  refine n_i2l hC dX0_putKindOfRow_47 ?_
  refine n_iconst hC (2 : Int32) (by decide) dX0_putKindOfRow_48 ?_
  refine n_callVv (As := [.long ((M10.1 a0 14)).toInt64, .int (2 : Int32)]) (rest := []) h1 rfl (by decide) hC (c_X3_putNumber l M10 a1 (((M10.1 a0 14)).toInt64) (2 : Int32) h1) my_X3_putNumber ml_X0_88 rfl rfl rfl (Nat.le_of_ble_eq_true rfl) ⟨by decide, by decide⟩ dX0_putKindOfRow_49 (fun r11 M12 => ?_)
  refine n_aload_n hC 1 rfl dX0_putKindOfRow_52 ?_
  refine n_aload_n hC 0 rfl dX0_putKindOfRow_53 ?_
  refine n_get hC clX0 h0 15 (.int (M12.1 a0 15)) (by decide) rfl fl_X0_60 rfl dX0_putKindOfRow_54 ?_
  refine n_i2l hC dX0_putKindOfRow_57 ?_
  refine n_iconst hC (2 : Int32) (by decide) dX0_putKindOfRow_58 ?_
  refine n_callVv (As := [.long ((M12.1 a0 15)).toInt64, .int (2 : Int32)]) (rest := []) h1 rfl (by decide) hC (c_X3_putNumber l M12 a1 (((M12.1 a0 15)).toInt64) (2 : Int32) h1) my_X3_putNumber ml_X0_88 rfl rfl rfl (Nat.le_of_ble_eq_true rfl) ⟨by decide, by decide⟩ dX0_putKindOfRow_59 (fun r13 M14 => ?_)
  exact n_vret hC dX0_putKindOfRow_62
def f_X0_putKindOfRow (M : Me) (a0 : Nat) (a1 : Nat) : Option (Unit × Me) := if (M.1 a0 6) = (2 : Int32) then j_X0_putKindOfRow_18 a0 a1 (45 : Int64) a1 M else j_X0_putKindOfRow_18 a0 a1 (20 : Int64) a1 M
set_option maxHeartbeats 4000000 in
set_option maxRecDepth 100000 in
theorem c_X0_putKindOfRow (l : Launch) (M : Me) (a0 : Nat) (a1 : Nat) (h0 : kd a0 = 0) (h1 : kd a1 = 3) : CN l yX0_putKindOfRow cX0_putKindOfRow 2 none (k2_rm 2 45) eV (fun b => [.ref (b + a0), .ref (b + a1)]) M (f_X0_putKindOfRow M a0 a1) := by
  refine CN.of RX0 (fun b => [(0, .ref (b + a0)), (1, .ref (b + a1))]) (by decide) rfl (fun b => Nat.le_of_ble_eq_true rfl) (fun b => rfl) ?_
  intro p e s m args below meth c D T b hC
  unfold f_X0_putKindOfRow
  refine n_aload_n hC 1 rfl dX0_putKindOfRow_0 ?_
  refine n_aload_n hC 0 rfl dX0_putKindOfRow_1 ?_
  refine n_get hC clX0 h0 6 (.int (M.1 a0 6)) (by decide) rfl fl_X0_32 rfl dX0_putKindOfRow_2 ?_
  refine n_iconst hC (2 : Int32) (by decide) dX0_putKindOfRow_5 ?_
  refine n_icmp_ne hC 15 dX0_putKindOfRow_6 (by decide) ?_ ?_
  · refine n_ldc2 hC (20 : Int64) kc_X0_110 dX0_putKindOfRow_15 ?_
    exact GN.sub [0, 1] rfl (b_X0_putKindOfRow_18 hC a0 a1 (20 : Int64) a1 h0 h1 h1 M)
  refine n_ldc2 hC (45 : Int64) kc_X0_112 dX0_putKindOfRow_9 ?_
  refine n_goto hC (tgt := 18) (by decide) dX0_putKindOfRow_12 ?_
  exact GN.sub [0, 1] rfl (b_X0_putKindOfRow_18 hC a0 a1 (45 : Int64) a1 h0 h1 h1 M)
def g_X0_putNameAndExtra_59 (kx : Int32 → Me → Option (Unit × Me)) (kb : Int32 × Me → Option (Unit × Me)) (a0 : Nat) (a1 : Nat) (x2 : Int32) (M : Me) : Option (Unit × Me) := if (M.1 a0 9) ≤ x2 then kx x2 M else if (3 : Int32) ≤ x2 then kx x2 M else chk x2 (ln (rf a0 2)) (cal (f_X3_putNumber M a1 (((M.1 (rf a0 2) x2.toNatClampNeg)).toInt64) (2 : Int32)) (fun _ M5 => chk x2 (ln (rf a0 3)) (cal (f_X3_putNumber M5 a1 (((M5.1 (rf a0 3) x2.toNatClampNeg)).toInt64) (2 : Int32)) (fun _ M8 => chk x2 (ln (rf a0 3)) (cal (f_X3_putCells M8 a1 (rf a0 4) (x2 * (8 : Int32)) (M8.1 (rf a0 3) x2.toNatClampNeg)) (fun _ M11 => bndV (x2 + (1 : Int32)) (fun v12 => kb (v12, M11))))))))
set_option maxHeartbeats 4000000 in
set_option maxRecDepth 100000 in
theorem b_X0_putNameAndExtra_59_g {p : Program} {l : Launch} {e : Env} {s : State} {m : MethodId} {args : Array Value} {below : List Frame} {meth : Method} {c : Code} {D : va_G} {T : Nat → ClassId} {b : Nat} (hC : CX p s m args meth c cX0_putNameAndExtra 3 RX0 none D T) (a0 : Nat) (a1 : Nat) (x2 : Int32) (h0 : kd a0 = 0) (h1 : kd a1 = 3) (kx : Int32 → Me → Option (Unit × Me)) (hkx : ∀ (x2 : Int32) (M : Me), GN p l e (k2_rm 2 45) s m args below meth c D T b 3 eV 120 [] [] M (kx x2 M)) (kb : Int32 × Me → Option (Unit × Me)) (hkb : ∀ z : Int32 × Me, GN p l e (k2_rm 2 45) s m args below meth c D T b 3 eV 59 [(0, .ref (b + a0)), (1, .ref (b + a1)), (2, .int z.1)] [] z.2 (kb z)) (M : Me) : GN p l e (k2_rm 2 45) s m args below meth c D T b 3 eV 59 [(0, .ref (b + a0)), (1, .ref (b + a1)), (2, .int x2)] [] M (g_X0_putNameAndExtra_59 kx kb a0 a1 x2 M) := by
  unfold g_X0_putNameAndExtra_59
  refine n_iload_n hC 2 rfl dX0_putNameAndExtra_59 ?_
  refine n_aload_n hC 0 rfl dX0_putNameAndExtra_60 ?_
  refine n_get hC clX0 h0 9 (.int (M.1 a0 9)) (by decide) rfl fl_X0_41 rfl dX0_putNameAndExtra_61 ?_
  refine n_icmp_ge hC 120 dX0_putNameAndExtra_64 (by decide) ?_ ?_
  · exact GN.sub [] rfl (hkx x2 M)
  refine n_iload_n hC 2 rfl dX0_putNameAndExtra_67 ?_
  refine n_iconst hC (3 : Int32) (by decide) dX0_putNameAndExtra_68 ?_
  refine n_icmp_ge hC 120 dX0_putNameAndExtra_69 (by decide) ?_ ?_
  · exact GN.sub [] rfl (hkx x2 M)
  refine n_aload_n hC 1 rfl dX0_putNameAndExtra_72 ?_
  refine n_aload_n hC 0 rfl dX0_putNameAndExtra_73 ?_
  refine n_get hC clX0 h0 2 (.ref (b + (rf a0 2))) (by decide) rfl fl_X0_18 rfl dX0_putNameAndExtra_74 ?_
  refine n_iload_n hC 2 rfl dX0_putNameAndExtra_77 ?_
  refine n_iald hC (kf_X0_2 h0) dX0_putNameAndExtra_78 (fun g3 => ?_)
  refine n_i2l hC dX0_putNameAndExtra_79 ?_
  refine n_iconst hC (2 : Int32) (by decide) dX0_putNameAndExtra_80 ?_
  refine n_callVv (As := [.long ((M.1 (rf a0 2) x2.toNatClampNeg)).toInt64, .int (2 : Int32)]) (rest := []) h1 rfl (by decide) hC (c_X3_putNumber l M a1 (((M.1 (rf a0 2) x2.toNatClampNeg)).toInt64) (2 : Int32) h1) my_X3_putNumber ml_X0_88 rfl rfl rfl (Nat.le_of_ble_eq_true rfl) ⟨by decide, by decide⟩ dX0_putNameAndExtra_81 (fun r4 M5 => ?_)
  refine n_aload_n hC 1 rfl dX0_putNameAndExtra_84 ?_
  refine n_aload_n hC 0 rfl dX0_putNameAndExtra_85 ?_
  refine n_get hC clX0 h0 3 (.ref (b + (rf a0 3))) (by decide) rfl fl_X0_22 rfl dX0_putNameAndExtra_86 ?_
  refine n_iload_n hC 2 rfl dX0_putNameAndExtra_89 ?_
  refine n_iald hC (kf_X0_3 h0) dX0_putNameAndExtra_90 (fun g6 => ?_)
  refine n_i2l hC dX0_putNameAndExtra_91 ?_
  refine n_iconst hC (2 : Int32) (by decide) dX0_putNameAndExtra_92 ?_
  refine n_callVv (As := [.long ((M5.1 (rf a0 3) x2.toNatClampNeg)).toInt64, .int (2 : Int32)]) (rest := []) h1 rfl (by decide) hC (c_X3_putNumber l M5 a1 (((M5.1 (rf a0 3) x2.toNatClampNeg)).toInt64) (2 : Int32) h1) my_X3_putNumber ml_X0_88 rfl rfl rfl (Nat.le_of_ble_eq_true rfl) ⟨by decide, by decide⟩ dX0_putNameAndExtra_93 (fun r7 M8 => ?_)
  refine n_aload_n hC 1 rfl dX0_putNameAndExtra_96 ?_
  refine n_aload_n hC 0 rfl dX0_putNameAndExtra_97 ?_
  refine n_get hC clX0 h0 4 (.ref (b + (rf a0 4))) (by decide) rfl fl_X0_25 rfl dX0_putNameAndExtra_98 ?_
  refine n_iload_n hC 2 rfl dX0_putNameAndExtra_101 ?_
  refine n_bipush hC (8 : Int32) (by decide) dX0_putNameAndExtra_102 ?_
  refine n_imul hC dX0_putNameAndExtra_104 ?_
  refine n_aload_n hC 0 rfl dX0_putNameAndExtra_105 ?_
  refine n_get hC clX0 h0 3 (.ref (b + (rf a0 3))) (by decide) rfl fl_X0_22 rfl dX0_putNameAndExtra_106 ?_
  refine n_iload_n hC 2 rfl dX0_putNameAndExtra_109 ?_
  refine n_iald hC (kf_X0_3 h0) dX0_putNameAndExtra_110 (fun g9 => ?_)
  refine n_callVv (As := [.ref (b + (rf a0 4)), .int (x2 * (8 : Int32)), .int (M8.1 (rf a0 3) x2.toNatClampNeg)]) (rest := []) h1 rfl (by decide) hC (c_X3_putCells l M8 a1 (rf a0 4) (x2 * (8 : Int32)) (M8.1 (rf a0 3) x2.toNatClampNeg) h1 (kf_X0_4 h0)) my_X3_putCells ml_X0_102 rfl rfl rfl (Nat.le_of_ble_eq_true rfl) ⟨by decide, by decide⟩ dX0_putNameAndExtra_111 (fun r10 M11 => ?_)
  refine n_iincB hC (1 : Int32) (by decide) (fun v12 => [(2, .int v12), (0, .ref (b + a0)), (1, .ref (b + a1))]) 2 rfl (by decide) (fun _ => rfl) dX0_putNameAndExtra_114 (fun v12 => ?_)
  refine n_goto hC (tgt := 59) (by decide) dX0_putNameAndExtra_117 ?_
  exact GN.sub [1, 2, 0] rfl (hkb (v12, M11))
def l_X0_putNameAndExtra_59 (kx : Int32 → Me → Option (Unit × Me)) (a0 : Nat) (a1 : Nat) (x2 : Int32) (M : Me) : Option (Unit × Me) := lp (fun kb z => g_X0_putNameAndExtra_59 kx kb a0 a1 z.1 z.2) FU (x2, M)
set_option maxHeartbeats 4000000 in
set_option maxRecDepth 100000 in
theorem b_X0_putNameAndExtra_59 {p : Program} {l : Launch} {e : Env} {s : State} {m : MethodId} {args : Array Value} {below : List Frame} {meth : Method} {c : Code} {D : va_G} {T : Nat → ClassId} {b : Nat} (hC : CX p s m args meth c cX0_putNameAndExtra 3 RX0 none D T) (a0 : Nat) (a1 : Nat) (x2 : Int32) (h0 : kd a0 = 0) (h1 : kd a1 = 3) (kx : Int32 → Me → Option (Unit × Me)) (hkx : ∀ (x2 : Int32) (M : Me), GN p l e (k2_rm 2 45) s m args below meth c D T b 3 eV 120 [] [] M (kx x2 M)) (M : Me) : GN p l e (k2_rm 2 45) s m args below meth c D T b 3 eV 59 [(0, .ref (b + a0)), (1, .ref (b + a1)), (2, .int x2)] [] M (l_X0_putNameAndExtra_59 kx a0 a1 x2 M) := by
  exact n_loop (σ := Int32 × Me) (fun z => [(0, .ref (b + a0)), (1, .ref (b + a1)), (2, .int z.1)]) (fun z => z.2) (fun kb hkb z => b_X0_putNameAndExtra_59_g hC a0 a1 z.1 h0 h1 kx hkx kb hkb z.2) FU (x2, M)
def j_X0_putNameAndExtra_57 (a0 : Nat) (a1 : Nat) (M : Me) : Option (Unit × Me) := l_X0_putNameAndExtra_59 (fun v13 M14 => some ((), M14)) a0 a1 (0 : Int32) M
set_option maxHeartbeats 4000000 in
set_option maxRecDepth 100000 in
theorem b_X0_putNameAndExtra_57 {p : Program} {l : Launch} {e : Env} {s : State} {m : MethodId} {args : Array Value} {below : List Frame} {meth : Method} {c : Code} {D : va_G} {T : Nat → ClassId} {b : Nat} (hC : CX p s m args meth c cX0_putNameAndExtra 3 RX0 none D T) (a0 : Nat) (a1 : Nat) (h0 : kd a0 = 0) (h1 : kd a1 = 3) (M : Me) : GN p l e (k2_rm 2 45) s m args below meth c D T b 3 eV 57 [(0, .ref (b + a0)), (1, .ref (b + a1))] [] M (j_X0_putNameAndExtra_57 a0 a1 M) := by
  unfold j_X0_putNameAndExtra_57
  refine n_iconst hC (0 : Int32) (by decide) dX0_putNameAndExtra_57 ?_
  refine n_istore_n hC rfl [(2, .int (0 : Int32)), (0, .ref (b + a0)), (1, .ref (b + a1))] (by decide) rfl dX0_putNameAndExtra_58 ?_
  refine GN.sub [1, 2, 0] rfl (b_X0_putNameAndExtra_59 hC a0 a1 (0 : Int32) h0 h1 _ (fun v13 M14 => ?_) M)
  exact n_vret hC dX0_putNameAndExtra_120
def f_X0_putNameAndExtra (M : Me) (a0 : Nat) (a1 : Nat) : Option (Unit × Me) := cal (f_X3_putCells M a1 (rf a0 0) (0 : Int32) (M.1 a0 7)) (fun _ M2 => if (M2.1 a0 6) = (2 : Int32) then cal (f_X3_putNumber M2 a1 (1 : Int64) (2 : Int32)) (fun _ M16 => cal (f_X3_putNumber M16 a1 (16 : Int64) (2 : Int32)) (fun _ M18 => cal (f_X0_trueSize M18 a0) (fun r19 M20 => cal (f_X3_putNumber M20 a1 r19.toInt64 (8 : Int32)) (fun _ M22 => cal (f_X3_putNumber M22 a1 (((M22.1 a0 8)).toInt64) (8 : Int32)) (fun _ M24 => j_X0_putNameAndExtra_57 a0 a1 M24))))) else j_X0_putNameAndExtra_57 a0 a1 M2)
set_option maxHeartbeats 4000000 in
set_option maxRecDepth 100000 in
theorem c_X0_putNameAndExtra (l : Launch) (M : Me) (a0 : Nat) (a1 : Nat) (h0 : kd a0 = 0) (h1 : kd a1 = 3) : CN l yX0_putNameAndExtra cX0_putNameAndExtra 3 none (k2_rm 2 45) eV (fun b => [.ref (b + a0), .ref (b + a1)]) M (f_X0_putNameAndExtra M a0 a1) := by
  refine CN.of RX0 (fun b => [(0, .ref (b + a0)), (1, .ref (b + a1))]) (by decide) rfl (fun b => Nat.le_of_ble_eq_true rfl) (fun b => rfl) ?_
  intro p e s m args below meth c D T b hC
  unfold f_X0_putNameAndExtra
  refine n_aload_n hC 1 rfl dX0_putNameAndExtra_0 ?_
  refine n_aload_n hC 0 rfl dX0_putNameAndExtra_1 ?_
  refine n_get hC clX0 h0 0 (.ref (b + (rf a0 0))) (by decide) rfl fl_X0_9 rfl dX0_putNameAndExtra_2 ?_
  refine n_iconst hC (0 : Int32) (by decide) dX0_putNameAndExtra_5 ?_
  refine n_aload_n hC 0 rfl dX0_putNameAndExtra_6 ?_
  refine n_get hC clX0 h0 7 (.int (M.1 a0 7)) (by decide) rfl fl_X0_35 rfl dX0_putNameAndExtra_7 ?_
  refine n_callVv (As := [.ref (b + (rf a0 0)), .int (0 : Int32), .int (M.1 a0 7)]) (rest := []) h1 rfl (by decide) hC (c_X3_putCells l M a1 (rf a0 0) (0 : Int32) (M.1 a0 7) h1 (kf_X0_0 h0)) my_X3_putCells ml_X0_102 rfl rfl rfl (Nat.le_of_ble_eq_true rfl) ⟨by decide, by decide⟩ dX0_putNameAndExtra_10 (fun r1 M2 => ?_)
  refine n_aload_n hC 0 rfl dX0_putNameAndExtra_13 ?_
  refine n_get hC clX0 h0 6 (.int (M2.1 a0 6)) (by decide) rfl fl_X0_32 rfl dX0_putNameAndExtra_14 ?_
  refine n_iconst hC (2 : Int32) (by decide) dX0_putNameAndExtra_17 ?_
  refine n_icmp_ne hC 57 dX0_putNameAndExtra_18 (by decide) ?_ ?_
  · exact GN.sub [0, 1] rfl (b_X0_putNameAndExtra_57 hC a0 a1 h0 h1 M2)
  refine n_aload_n hC 1 rfl dX0_putNameAndExtra_21 ?_
  refine n_lconst hC (1 : Int64) (by decide) dX0_putNameAndExtra_22 ?_
  refine n_iconst hC (2 : Int32) (by decide) dX0_putNameAndExtra_23 ?_
  refine n_callVv (As := [.long (1 : Int64), .int (2 : Int32)]) (rest := []) h1 rfl (by decide) hC (c_X3_putNumber l M2 a1 (1 : Int64) (2 : Int32) h1) my_X3_putNumber ml_X0_88 rfl rfl rfl (Nat.le_of_ble_eq_true rfl) ⟨by decide, by decide⟩ dX0_putNameAndExtra_24 (fun r15 M16 => ?_)
  refine n_aload_n hC 1 rfl dX0_putNameAndExtra_27 ?_
  refine n_ldc2 hC (16 : Int64) kc_X0_128 dX0_putNameAndExtra_28 ?_
  refine n_iconst hC (2 : Int32) (by decide) dX0_putNameAndExtra_31 ?_
  refine n_callVv (As := [.long (16 : Int64), .int (2 : Int32)]) (rest := []) h1 rfl (by decide) hC (c_X3_putNumber l M16 a1 (16 : Int64) (2 : Int32) h1) my_X3_putNumber ml_X0_88 rfl rfl rfl (Nat.le_of_ble_eq_true rfl) ⟨by decide, by decide⟩ dX0_putNameAndExtra_32 (fun r17 M18 => ?_)
  refine n_aload_n hC 1 rfl dX0_putNameAndExtra_35 ?_
  refine n_aload_n hC 0 rfl dX0_putNameAndExtra_36 ?_
  refine n_callVi (As := []) (rest := [.ref (b + a1)]) h0 rfl (by decide) hC (c_X0_trueSize l M18 a0 h0) my_X0_trueSize ml_X0_125 rfl rfl rfl (Nat.le_of_ble_eq_true rfl) ⟨by decide, by decide⟩ dX0_putNameAndExtra_37 (fun r19 M20 => ?_)
  refine n_i2l hC dX0_putNameAndExtra_40 ?_
  refine n_bipush hC (8 : Int32) (by decide) dX0_putNameAndExtra_41 ?_
  refine n_callVv (As := [.long r19.toInt64, .int (8 : Int32)]) (rest := []) h1 rfl (by decide) hC (c_X3_putNumber l M20 a1 r19.toInt64 (8 : Int32) h1) my_X3_putNumber ml_X0_88 rfl rfl rfl (Nat.le_of_ble_eq_true rfl) ⟨by decide, by decide⟩ dX0_putNameAndExtra_43 (fun r21 M22 => ?_)
  refine n_aload_n hC 1 rfl dX0_putNameAndExtra_46 ?_
  refine n_aload_n hC 0 rfl dX0_putNameAndExtra_47 ?_
  refine n_get hC clX0 h0 8 (.int (M22.1 a0 8)) (by decide) rfl fl_X0_38 rfl dX0_putNameAndExtra_48 ?_
  refine n_i2l hC dX0_putNameAndExtra_51 ?_
  refine n_bipush hC (8 : Int32) (by decide) dX0_putNameAndExtra_52 ?_
  refine n_callVv (As := [.long ((M22.1 a0 8)).toInt64, .int (8 : Int32)]) (rest := []) h1 rfl (by decide) hC (c_X3_putNumber l M22 a1 (((M22.1 a0 8)).toInt64) (8 : Int32) h1) my_X3_putNumber ml_X0_88 rfl rfl rfl (Nat.le_of_ble_eq_true rfl) ⟨by decide, by decide⟩ dX0_putNameAndExtra_54 (fun r23 M24 => ?_)
  exact GN.sub [0, 1] rfl (b_X0_putNameAndExtra_57 hC a0 a1 h0 h1 M24)
def j_X0_putSumAndSizes_54 (s0 : Int64) (s1 : Nat) (M : Me) : Option (Unit × Me) := cal (f_X3_putNumber M s1 s0 (4 : Int32)) (fun _ M10 => some ((), M10))
set_option maxHeartbeats 4000000 in
set_option maxRecDepth 100000 in
theorem b_X0_putSumAndSizes_54 {p : Program} {l : Launch} {e : Env} {s : State} {m : MethodId} {args : Array Value} {below : List Frame} {meth : Method} {c : Code} {D : va_G} {T : Nat → ClassId} {b : Nat} (hC : CX p s m args meth c cX0_putSumAndSizes 2 RX0 none D T) (s0 : Int64) (s1 : Nat) (hs1 : kd s1 = 3) (M : Me) : GN p l e (k2_rm 2 45) s m args below meth c D T b 2 eV 54 [] [.long s0, .ref (b + s1)] M (j_X0_putSumAndSizes_54 s0 s1 M) := by
  unfold j_X0_putSumAndSizes_54
  refine n_iconst hC (4 : Int32) (by decide) dX0_putSumAndSizes_54 ?_
  refine n_callVv (As := [.long s0, .int (4 : Int32)]) (rest := []) hs1 rfl (by decide) hC (c_X3_putNumber l M s1 s0 (4 : Int32) hs1) my_X3_putNumber ml_X0_88 rfl rfl rfl (Nat.le_of_ble_eq_true rfl) ⟨by decide, by decide⟩ dX0_putSumAndSizes_55 (fun r9 M10 => ?_)
  exact n_vret hC dX0_putSumAndSizes_58
def j_X0_putSumAndSizes_30 (a0 : Nat) (a1 : Nat) (s0 : Int64) (s1 : Nat) (M : Me) : Option (Unit × Me) := cal (f_X3_putNumber M s1 s0 (4 : Int32)) (fun _ M6 => if (M6.1 a0 6) = (2 : Int32) then j_X0_putSumAndSizes_54 (4294967295 : Int64) a1 M6 else cal (f_X0_trueSize M6 a0) (fun r7 M8 => j_X0_putSumAndSizes_54 r7.toInt64 a1 M8))
set_option maxHeartbeats 4000000 in
set_option maxRecDepth 100000 in
theorem b_X0_putSumAndSizes_30 {p : Program} {l : Launch} {e : Env} {s : State} {m : MethodId} {args : Array Value} {below : List Frame} {meth : Method} {c : Code} {D : va_G} {T : Nat → ClassId} {b : Nat} (hC : CX p s m args meth c cX0_putSumAndSizes 2 RX0 none D T) (a0 : Nat) (a1 : Nat) (s0 : Int64) (s1 : Nat) (h0 : kd a0 = 0) (h1 : kd a1 = 3) (hs1 : kd s1 = 3) (M : Me) : GN p l e (k2_rm 2 45) s m args below meth c D T b 2 eV 30 [(0, .ref (b + a0)), (1, .ref (b + a1))] [.long s0, .ref (b + s1)] M (j_X0_putSumAndSizes_30 a0 a1 s0 s1 M) := by
  unfold j_X0_putSumAndSizes_30
  refine n_iconst hC (4 : Int32) (by decide) dX0_putSumAndSizes_30 ?_
  refine n_callVv (As := [.long s0, .int (4 : Int32)]) (rest := []) hs1 rfl (by decide) hC (c_X3_putNumber l M s1 s0 (4 : Int32) hs1) my_X3_putNumber ml_X0_88 rfl rfl rfl (Nat.le_of_ble_eq_true rfl) ⟨by decide, by decide⟩ dX0_putSumAndSizes_31 (fun r5 M6 => ?_)
  refine n_aload_n hC 1 rfl dX0_putSumAndSizes_34 ?_
  refine n_aload_n hC 0 rfl dX0_putSumAndSizes_35 ?_
  refine n_get hC clX0 h0 6 (.int (M6.1 a0 6)) (by decide) rfl fl_X0_32 rfl dX0_putSumAndSizes_36 ?_
  refine n_iconst hC (2 : Int32) (by decide) dX0_putSumAndSizes_39 ?_
  refine n_icmp_ne hC 49 dX0_putSumAndSizes_40 (by decide) ?_ ?_
  · refine n_aload_n hC 0 rfl dX0_putSumAndSizes_49 ?_
    refine n_callVi (As := []) (rest := [.ref (b + a1)]) h0 rfl (by decide) hC (c_X0_trueSize l M6 a0 h0) my_X0_trueSize ml_X0_125 rfl rfl rfl (Nat.le_of_ble_eq_true rfl) ⟨by decide, by decide⟩ dX0_putSumAndSizes_50 (fun r7 M8 => ?_)
    refine n_i2l hC dX0_putSumAndSizes_53 ?_
    exact GN.sub [] rfl (b_X0_putSumAndSizes_54 hC r7.toInt64 a1 h1 M8)
  refine n_ldc2 hC (4294967295 : Int64) kc_X0_123 dX0_putSumAndSizes_43 ?_
  refine n_goto hC (tgt := 54) (by decide) dX0_putSumAndSizes_46 ?_
  exact GN.sub [] rfl (b_X0_putSumAndSizes_54 hC (4294967295 : Int64) a1 h1 M6)
def f_X0_putSumAndSizes (M : Me) (a0 : Nat) (a1 : Nat) : Option (Unit × Me) := cal (f_X0_sum M a0) (fun r1 M2 => cal (f_X3_putNumber M2 a1 r1.toInt64 (4 : Int32)) (fun _ M4 => if (M4.1 a0 6) = (2 : Int32) then j_X0_putSumAndSizes_30 a0 a1 (4294967295 : Int64) a1 M4 else j_X0_putSumAndSizes_30 a0 a1 (((M4.1 a0 8)).toInt64) a1 M4))
set_option maxHeartbeats 4000000 in
set_option maxRecDepth 100000 in
theorem c_X0_putSumAndSizes (l : Launch) (M : Me) (a0 : Nat) (a1 : Nat) (h0 : kd a0 = 0) (h1 : kd a1 = 3) : CN l yX0_putSumAndSizes cX0_putSumAndSizes 2 none (k2_rm 2 45) eV (fun b => [.ref (b + a0), .ref (b + a1)]) M (f_X0_putSumAndSizes M a0 a1) := by
  refine CN.of RX0 (fun b => [(0, .ref (b + a0)), (1, .ref (b + a1))]) (by decide) rfl (fun b => Nat.le_of_ble_eq_true rfl) (fun b => rfl) ?_
  intro p e s m args below meth c D T b hC
  unfold f_X0_putSumAndSizes
  refine n_aload_n hC 1 rfl dX0_putSumAndSizes_0 ?_
  refine n_aload_n hC 0 rfl dX0_putSumAndSizes_1 ?_
  refine n_callVi (As := []) (rest := [.ref (b + a1)]) h0 rfl (by decide) hC (c_X0_sum l M a0 h0) my_X0_sum ml_X0_120 rfl rfl rfl (Nat.le_of_ble_eq_true rfl) ⟨by decide, by decide⟩ dX0_putSumAndSizes_2 (fun r1 M2 => ?_)
  refine n_i2l hC dX0_putSumAndSizes_5 ?_
  refine n_iconst hC (4 : Int32) (by decide) dX0_putSumAndSizes_6 ?_
  refine n_callVv (As := [.long r1.toInt64, .int (4 : Int32)]) (rest := []) h1 rfl (by decide) hC (c_X3_putNumber l M2 a1 r1.toInt64 (4 : Int32) h1) my_X3_putNumber ml_X0_88 rfl rfl rfl (Nat.le_of_ble_eq_true rfl) ⟨by decide, by decide⟩ dX0_putSumAndSizes_7 (fun r3 M4 => ?_)
  refine n_aload_n hC 1 rfl dX0_putSumAndSizes_10 ?_
  refine n_aload_n hC 0 rfl dX0_putSumAndSizes_11 ?_
  refine n_get hC clX0 h0 6 (.int (M4.1 a0 6)) (by decide) rfl fl_X0_32 rfl dX0_putSumAndSizes_12 ?_
  refine n_iconst hC (2 : Int32) (by decide) dX0_putSumAndSizes_15 ?_
  refine n_icmp_ne hC 25 dX0_putSumAndSizes_16 (by decide) ?_ ?_
  · refine n_aload_n hC 0 rfl dX0_putSumAndSizes_25 ?_
    refine n_get hC clX0 h0 8 (.int (M4.1 a0 8)) (by decide) rfl fl_X0_38 rfl dX0_putSumAndSizes_26 ?_
    refine n_i2l hC dX0_putSumAndSizes_29 ?_
    exact GN.sub [0, 1] rfl (b_X0_putSumAndSizes_30 hC a0 a1 (((M4.1 a0 8)).toInt64) a1 h0 h1 h1 M4)
  refine n_ldc2 hC (4294967295 : Int64) kc_X0_123 dX0_putSumAndSizes_19 ?_
  refine n_goto hC (tgt := 30) (by decide) dX0_putSumAndSizes_22 ?_
  exact GN.sub [0, 1] rfl (b_X0_putSumAndSizes_30 hC a0 a1 (4294967295 : Int64) a1 h0 h1 h1 M4)
def j_X0_putLocal_50 (a0 : Nat) (a1 : Nat) (M : Me) : Option (Unit × Me) := cal (f_X3_putNumber M a1 (((M.1 a0 7)).toInt64) (2 : Int32)) (fun _ M9 => cal (f_X0_extraLength M9 a0) (fun r10 M11 => cal (f_X3_putNumber M11 a1 r10.toInt64 (2 : Int32)) (fun _ M13 => cal (f_X0_putNameAndExtra M13 a0 a1) (fun _ M15 => cal (f_X3_putCells M15 a1 (rf a0 1) (0 : Int32) (M15.1 a0 8)) (fun _ M17 => if (M17.1 a0 6) = (1 : Int32) then cal (f_X3_putNumber M17 a1 (134695760 : Int64) (4 : Int32)) (fun _ M19 => cal (f_X0_putSumAndSizes M19 a0 a1) (fun _ M21 => some ((), M21))) else some ((), M17))))))
set_option maxHeartbeats 4000000 in
set_option maxRecDepth 100000 in
theorem b_X0_putLocal_50 {p : Program} {l : Launch} {e : Env} {s : State} {m : MethodId} {args : Array Value} {below : List Frame} {meth : Method} {c : Code} {D : va_G} {T : Nat → ClassId} {b : Nat} (hC : CX p s m args meth c cX0_putLocal 2 RX0 none D T) (a0 : Nat) (a1 : Nat) (h0 : kd a0 = 0) (h1 : kd a1 = 3) (M : Me) : GN p l e (k2_rm 3 67) s m args below meth c D T b 2 eV 50 [(0, .ref (b + a0)), (1, .ref (b + a1))] [] M (j_X0_putLocal_50 a0 a1 M) := by
  unfold j_X0_putLocal_50
  refine n_aload_n hC 1 rfl dX0_putLocal_50 ?_
  refine n_aload_n hC 0 rfl dX0_putLocal_51 ?_
  refine n_get hC clX0 h0 7 (.int (M.1 a0 7)) (by decide) rfl fl_X0_35 rfl dX0_putLocal_52 ?_
  refine n_i2l hC dX0_putLocal_55 ?_
  refine n_iconst hC (2 : Int32) (by decide) dX0_putLocal_56 ?_
  refine n_callVv (As := [.long ((M.1 a0 7)).toInt64, .int (2 : Int32)]) (rest := []) h1 rfl (by decide) hC (c_X3_putNumber l M a1 (((M.1 a0 7)).toInt64) (2 : Int32) h1) my_X3_putNumber ml_X0_88 rfl rfl rfl (Nat.le_of_ble_eq_true rfl) ⟨by decide, by decide⟩ dX0_putLocal_57 (fun r8 M9 => ?_)
  refine n_aload_n hC 1 rfl dX0_putLocal_60 ?_
  refine n_aload_n hC 0 rfl dX0_putLocal_61 ?_
  refine n_callVi (As := []) (rest := [.ref (b + a1)]) h0 rfl (by decide) hC (c_X0_extraLength l M9 a0 h0) my_X0_extraLength ml_X0_77 rfl rfl rfl (Nat.le_of_ble_eq_true rfl) ⟨by decide, by decide⟩ dX0_putLocal_62 (fun r10 M11 => ?_)
  refine n_i2l hC dX0_putLocal_65 ?_
  refine n_iconst hC (2 : Int32) (by decide) dX0_putLocal_66 ?_
  refine n_callVv (As := [.long r10.toInt64, .int (2 : Int32)]) (rest := []) h1 rfl (by decide) hC (c_X3_putNumber l M11 a1 r10.toInt64 (2 : Int32) h1) my_X3_putNumber ml_X0_88 rfl rfl rfl (Nat.le_of_ble_eq_true rfl) ⟨by decide, by decide⟩ dX0_putLocal_67 (fun r12 M13 => ?_)
  refine n_aload_n hC 0 rfl dX0_putLocal_70 ?_
  refine n_aload_n hC 1 rfl dX0_putLocal_71 ?_
  refine n_callVv (As := [.ref (b + a1)]) (rest := []) h0 rfl (by decide) hC (c_X0_putNameAndExtra l M13 a0 a1 h0 h1) my_X0_putNameAndExtra ml_X0_99 rfl rfl rfl (Nat.le_of_ble_eq_true rfl) ⟨by decide, by decide⟩ dX0_putLocal_72 (fun r14 M15 => ?_)
  refine n_aload_n hC 1 rfl dX0_putLocal_75 ?_
  refine n_aload_n hC 0 rfl dX0_putLocal_76 ?_
  refine n_get hC clX0 h0 1 (.ref (b + (rf a0 1))) (by decide) rfl fl_X0_15 rfl dX0_putLocal_77 ?_
  refine n_iconst hC (0 : Int32) (by decide) dX0_putLocal_80 ?_
  refine n_aload_n hC 0 rfl dX0_putLocal_81 ?_
  refine n_get hC clX0 h0 8 (.int (M15.1 a0 8)) (by decide) rfl fl_X0_38 rfl dX0_putLocal_82 ?_
  refine n_callVv (As := [.ref (b + (rf a0 1)), .int (0 : Int32), .int (M15.1 a0 8)]) (rest := []) h1 rfl (by decide) hC (c_X3_putCells l M15 a1 (rf a0 1) (0 : Int32) (M15.1 a0 8) h1 (kf_X0_1 h0)) my_X3_putCells ml_X0_102 rfl rfl rfl (Nat.le_of_ble_eq_true rfl) ⟨by decide, by decide⟩ dX0_putLocal_85 (fun r16 M17 => ?_)
  refine n_aload_n hC 0 rfl dX0_putLocal_88 ?_
  refine n_get hC clX0 h0 6 (.int (M17.1 a0 6)) (by decide) rfl fl_X0_32 rfl dX0_putLocal_89 ?_
  refine n_iconst hC (1 : Int32) (by decide) dX0_putLocal_92 ?_
  refine n_icmp_ne hC 109 dX0_putLocal_93 (by decide) ?_ ?_
  · exact n_vret hC dX0_putLocal_109
  refine n_aload_n hC 1 rfl dX0_putLocal_96 ?_
  refine n_ldc2 hC (134695760 : Int64) kc_X0_106 dX0_putLocal_97 ?_
  refine n_iconst hC (4 : Int32) (by decide) dX0_putLocal_100 ?_
  refine n_callVv (As := [.long (134695760 : Int64), .int (4 : Int32)]) (rest := []) h1 rfl (by decide) hC (c_X3_putNumber l M17 a1 (134695760 : Int64) (4 : Int32) h1) my_X3_putNumber ml_X0_88 rfl rfl rfl (Nat.le_of_ble_eq_true rfl) ⟨by decide, by decide⟩ dX0_putLocal_101 (fun r18 M19 => ?_)
  refine n_aload_n hC 0 rfl dX0_putLocal_104 ?_
  refine n_aload_n hC 1 rfl dX0_putLocal_105 ?_
  refine n_callVv (As := [.ref (b + a1)]) (rest := []) h0 rfl (by decide) hC (c_X0_putSumAndSizes l M19 a0 a1 h0 h1) my_X0_putSumAndSizes ml_X0_96 rfl rfl rfl (Nat.le_of_ble_eq_true rfl) ⟨by decide, by decide⟩ dX0_putLocal_106 (fun r20 M21 => ?_)
  exact n_vret hC dX0_putLocal_109
def f_X0_putLocal (M : Me) (a0 : Nat) (a1 : Nat) : Option (Unit × Me) := bnd (sI M a0 17 (M.1 a1 1)) (fun M1 => cal (f_X3_putNumber M1 a1 (67324752 : Int64) (4 : Int32)) (fun _ M3 => cal (f_X0_putKindOfRow M3 a0 a1) (fun _ M5 => if (M5.1 a0 6) = (1 : Int32) then cal (f_X3_putNumber M5 a1 (0 : Int64) (4 : Int32)) (fun _ M23 => cal (f_X3_putNumber M23 a1 (0 : Int64) (8 : Int32)) (fun _ M25 => j_X0_putLocal_50 a0 a1 M25)) else cal (f_X0_putSumAndSizes M5 a0 a1) (fun _ M7 => j_X0_putLocal_50 a0 a1 M7))))
set_option maxHeartbeats 4000000 in
set_option maxRecDepth 100000 in
theorem c_X0_putLocal (l : Launch) (M : Me) (a0 : Nat) (a1 : Nat) (h0 : kd a0 = 0) (h1 : kd a1 = 3) : CN l yX0_putLocal cX0_putLocal 2 none (k2_rm 3 67) eV (fun b => [.ref (b + a0), .ref (b + a1)]) M (f_X0_putLocal M a0 a1) := by
  refine CN.of RX0 (fun b => [(0, .ref (b + a0)), (1, .ref (b + a1))]) (by decide) rfl (fun b => Nat.le_of_ble_eq_true rfl) (fun b => rfl) ?_
  intro p e s m args below meth c D T b hC
  unfold f_X0_putLocal
  refine n_aload_n hC 0 rfl dX0_putLocal_0 ?_
  refine n_aload_n hC 1 rfl dX0_putLocal_1 ?_
  refine n_get hC clX3 h1 1 (.int (M.1 a1 1)) (by decide) rfl fl_X0_81 rfl dX0_putLocal_2 ?_
  refine n_putI hC clX0 h0 17 (by decide) rfl rfl rfl fl_X0_66 dX0_putLocal_5 (fun M1 => ?_)
  refine n_aload_n hC 1 rfl dX0_putLocal_8 ?_
  refine n_ldc2 hC (67324752 : Int64) kc_X0_86 dX0_putLocal_9 ?_
  refine n_iconst hC (4 : Int32) (by decide) dX0_putLocal_12 ?_
  refine n_callVv (As := [.long (67324752 : Int64), .int (4 : Int32)]) (rest := []) h1 rfl (by decide) hC (c_X3_putNumber l M1 a1 (67324752 : Int64) (4 : Int32) h1) my_X3_putNumber ml_X0_88 rfl rfl rfl (Nat.le_of_ble_eq_true rfl) ⟨by decide, by decide⟩ dX0_putLocal_13 (fun r2 M3 => ?_)
  refine n_aload_n hC 0 rfl dX0_putLocal_16 ?_
  refine n_aload_n hC 1 rfl dX0_putLocal_17 ?_
  refine n_callVv (As := [.ref (b + a1)]) (rest := []) h0 rfl (by decide) hC (c_X0_putKindOfRow l M3 a0 a1 h0 h1) my_X0_putKindOfRow ml_X0_92 rfl rfl rfl (Nat.le_of_ble_eq_true rfl) ⟨by decide, by decide⟩ dX0_putLocal_18 (fun r4 M5 => ?_)
  refine n_aload_n hC 0 rfl dX0_putLocal_21 ?_
  refine n_get hC clX0 h0 6 (.int (M5.1 a0 6)) (by decide) rfl fl_X0_32 rfl dX0_putLocal_22 ?_
  refine n_iconst hC (1 : Int32) (by decide) dX0_putLocal_25 ?_
  refine n_icmp_ne hC 45 dX0_putLocal_26 (by decide) ?_ ?_
  · refine n_aload_n hC 0 rfl dX0_putLocal_45 ?_
    refine n_aload_n hC 1 rfl dX0_putLocal_46 ?_
    refine n_callVv (As := [.ref (b + a1)]) (rest := []) h0 rfl (by decide) hC (c_X0_putSumAndSizes l M5 a0 a1 h0 h1) my_X0_putSumAndSizes ml_X0_96 rfl rfl rfl (Nat.le_of_ble_eq_true rfl) ⟨by decide, by decide⟩ dX0_putLocal_47 (fun r6 M7 => ?_)
    exact GN.sub [0, 1] rfl (b_X0_putLocal_50 hC a0 a1 h0 h1 M7)
  refine n_aload_n hC 1 rfl dX0_putLocal_29 ?_
  refine n_lconst hC (0 : Int64) (by decide) dX0_putLocal_30 ?_
  refine n_iconst hC (4 : Int32) (by decide) dX0_putLocal_31 ?_
  refine n_callVv (As := [.long (0 : Int64), .int (4 : Int32)]) (rest := []) h1 rfl (by decide) hC (c_X3_putNumber l M5 a1 (0 : Int64) (4 : Int32) h1) my_X3_putNumber ml_X0_88 rfl rfl rfl (Nat.le_of_ble_eq_true rfl) ⟨by decide, by decide⟩ dX0_putLocal_32 (fun r22 M23 => ?_)
  refine n_aload_n hC 1 rfl dX0_putLocal_35 ?_
  refine n_lconst hC (0 : Int64) (by decide) dX0_putLocal_36 ?_
  refine n_bipush hC (8 : Int32) (by decide) dX0_putLocal_37 ?_
  refine n_callVv (As := [.long (0 : Int64), .int (8 : Int32)]) (rest := []) h1 rfl (by decide) hC (c_X3_putNumber l M23 a1 (0 : Int64) (8 : Int32) h1) my_X3_putNumber ml_X0_88 rfl rfl rfl (Nat.le_of_ble_eq_true rfl) ⟨by decide, by decide⟩ dX0_putLocal_39 (fun r24 M25 => ?_)
  refine n_goto hC (tgt := 50) (by decide) dX0_putLocal_42 ?_
  exact GN.sub [0, 1] rfl (b_X0_putLocal_50 hC a0 a1 h0 h1 M25)
def f_X0_putCentre (M : Me) (a0 : Nat) (a1 : Nat) : Option (Unit × Me) := cal (f_X3_putNumber M a1 (33639248 : Int64) (4 : Int32)) (fun _ M2 => cal (f_X3_putNumber M2 a1 (20 : Int64) (2 : Int32)) (fun _ M4 => cal (f_X0_putKindOfRow M4 a0 a1) (fun _ M6 => cal (f_X0_putSumAndSizes M6 a0 a1) (fun _ M8 => cal (f_X3_putNumber M8 a1 (((M8.1 a0 7)).toInt64) (2 : Int32)) (fun _ M10 => cal (f_X0_extraLength M10 a0) (fun r11 M12 => cal (f_X3_putNumber M12 a1 r11.toInt64 (2 : Int32)) (fun _ M14 => cal (f_X3_putNumber M14 a1 (0 : Int64) (6 : Int32)) (fun _ M16 => cal (f_X3_putNumber M16 a1 (((M16.1 a0 16)).toInt64) (4 : Int32)) (fun _ M18 => cal (f_X3_putNumber M18 a1 (((M18.1 a0 17)).toInt64) (4 : Int32)) (fun _ M20 => cal (f_X0_putNameAndExtra M20 a0 a1) (fun _ M22 => some ((), M22))))))))))))
set_option maxHeartbeats 4000000 in
set_option maxRecDepth 100000 in
theorem c_X0_putCentre (l : Launch) (M : Me) (a0 : Nat) (a1 : Nat) (h0 : kd a0 = 0) (h1 : kd a1 = 3) : CN l yX0_putCentre cX0_putCentre 2 none (k2_rm 3 67) eV (fun b => [.ref (b + a0), .ref (b + a1)]) M (f_X0_putCentre M a0 a1) := by
  refine CN.of RX0 (fun b => [(0, .ref (b + a0)), (1, .ref (b + a1))]) (by decide) rfl (fun b => Nat.le_of_ble_eq_true rfl) (fun b => rfl) ?_
  intro p e s m args below meth c D T b hC
  unfold f_X0_putCentre
  refine n_aload_n hC 1 rfl dX0_putCentre_0 ?_
  refine n_ldc2 hC (33639248 : Int64) kc_X0_108 dX0_putCentre_1 ?_
  refine n_iconst hC (4 : Int32) (by decide) dX0_putCentre_4 ?_
  refine n_callVv (As := [.long (33639248 : Int64), .int (4 : Int32)]) (rest := []) h1 rfl (by decide) hC (c_X3_putNumber l M a1 (33639248 : Int64) (4 : Int32) h1) my_X3_putNumber ml_X0_88 rfl rfl rfl (Nat.le_of_ble_eq_true rfl) ⟨by decide, by decide⟩ dX0_putCentre_5 (fun r1 M2 => ?_)
  refine n_aload_n hC 1 rfl dX0_putCentre_8 ?_
  refine n_ldc2 hC (20 : Int64) kc_X0_110 dX0_putCentre_9 ?_
  refine n_iconst hC (2 : Int32) (by decide) dX0_putCentre_12 ?_
  refine n_callVv (As := [.long (20 : Int64), .int (2 : Int32)]) (rest := []) h1 rfl (by decide) hC (c_X3_putNumber l M2 a1 (20 : Int64) (2 : Int32) h1) my_X3_putNumber ml_X0_88 rfl rfl rfl (Nat.le_of_ble_eq_true rfl) ⟨by decide, by decide⟩ dX0_putCentre_13 (fun r3 M4 => ?_)
  refine n_aload_n hC 0 rfl dX0_putCentre_16 ?_
  refine n_aload_n hC 1 rfl dX0_putCentre_17 ?_
  refine n_callVv (As := [.ref (b + a1)]) (rest := []) h0 rfl (by decide) hC (c_X0_putKindOfRow l M4 a0 a1 h0 h1) my_X0_putKindOfRow ml_X0_92 rfl rfl rfl (Nat.le_of_ble_eq_true rfl) ⟨by decide, by decide⟩ dX0_putCentre_18 (fun r5 M6 => ?_)
  refine n_aload_n hC 0 rfl dX0_putCentre_21 ?_
  refine n_aload_n hC 1 rfl dX0_putCentre_22 ?_
  refine n_callVv (As := [.ref (b + a1)]) (rest := []) h0 rfl (by decide) hC (c_X0_putSumAndSizes l M6 a0 a1 h0 h1) my_X0_putSumAndSizes ml_X0_96 rfl rfl rfl (Nat.le_of_ble_eq_true rfl) ⟨by decide, by decide⟩ dX0_putCentre_23 (fun r7 M8 => ?_)
  refine n_aload_n hC 1 rfl dX0_putCentre_26 ?_
  refine n_aload_n hC 0 rfl dX0_putCentre_27 ?_
  refine n_get hC clX0 h0 7 (.int (M8.1 a0 7)) (by decide) rfl fl_X0_35 rfl dX0_putCentre_28 ?_
  refine n_i2l hC dX0_putCentre_31 ?_
  refine n_iconst hC (2 : Int32) (by decide) dX0_putCentre_32 ?_
  refine n_callVv (As := [.long ((M8.1 a0 7)).toInt64, .int (2 : Int32)]) (rest := []) h1 rfl (by decide) hC (c_X3_putNumber l M8 a1 (((M8.1 a0 7)).toInt64) (2 : Int32) h1) my_X3_putNumber ml_X0_88 rfl rfl rfl (Nat.le_of_ble_eq_true rfl) ⟨by decide, by decide⟩ dX0_putCentre_33 (fun r9 M10 => ?_)
  refine n_aload_n hC 1 rfl dX0_putCentre_36 ?_
  refine n_aload_n hC 0 rfl dX0_putCentre_37 ?_
  refine n_callVi (As := []) (rest := [.ref (b + a1)]) h0 rfl (by decide) hC (c_X0_extraLength l M10 a0 h0) my_X0_extraLength ml_X0_77 rfl rfl rfl (Nat.le_of_ble_eq_true rfl) ⟨by decide, by decide⟩ dX0_putCentre_38 (fun r11 M12 => ?_)
  refine n_i2l hC dX0_putCentre_41 ?_
  refine n_iconst hC (2 : Int32) (by decide) dX0_putCentre_42 ?_
  refine n_callVv (As := [.long r11.toInt64, .int (2 : Int32)]) (rest := []) h1 rfl (by decide) hC (c_X3_putNumber l M12 a1 r11.toInt64 (2 : Int32) h1) my_X3_putNumber ml_X0_88 rfl rfl rfl (Nat.le_of_ble_eq_true rfl) ⟨by decide, by decide⟩ dX0_putCentre_43 (fun r13 M14 => ?_)
  refine n_aload_n hC 1 rfl dX0_putCentre_46 ?_
  refine n_lconst hC (0 : Int64) (by decide) dX0_putCentre_47 ?_
  refine n_bipush hC (6 : Int32) (by decide) dX0_putCentre_48 ?_
  refine n_callVv (As := [.long (0 : Int64), .int (6 : Int32)]) (rest := []) h1 rfl (by decide) hC (c_X3_putNumber l M14 a1 (0 : Int64) (6 : Int32) h1) my_X3_putNumber ml_X0_88 rfl rfl rfl (Nat.le_of_ble_eq_true rfl) ⟨by decide, by decide⟩ dX0_putCentre_50 (fun r15 M16 => ?_)
  refine n_aload_n hC 1 rfl dX0_putCentre_53 ?_
  refine n_aload_n hC 0 rfl dX0_putCentre_54 ?_
  refine n_get hC clX0 h0 16 (.int (M16.1 a0 16)) (by decide) rfl fl_X0_63 rfl dX0_putCentre_55 ?_
  refine n_i2l hC dX0_putCentre_58 ?_
  refine n_iconst hC (4 : Int32) (by decide) dX0_putCentre_59 ?_
  refine n_callVv (As := [.long ((M16.1 a0 16)).toInt64, .int (4 : Int32)]) (rest := []) h1 rfl (by decide) hC (c_X3_putNumber l M16 a1 (((M16.1 a0 16)).toInt64) (4 : Int32) h1) my_X3_putNumber ml_X0_88 rfl rfl rfl (Nat.le_of_ble_eq_true rfl) ⟨by decide, by decide⟩ dX0_putCentre_60 (fun r17 M18 => ?_)
  refine n_aload_n hC 1 rfl dX0_putCentre_63 ?_
  refine n_aload_n hC 0 rfl dX0_putCentre_64 ?_
  refine n_get hC clX0 h0 17 (.int (M18.1 a0 17)) (by decide) rfl fl_X0_66 rfl dX0_putCentre_65 ?_
  refine n_i2l hC dX0_putCentre_68 ?_
  refine n_iconst hC (4 : Int32) (by decide) dX0_putCentre_69 ?_
  refine n_callVv (As := [.long ((M18.1 a0 17)).toInt64, .int (4 : Int32)]) (rest := []) h1 rfl (by decide) hC (c_X3_putNumber l M18 a1 (((M18.1 a0 17)).toInt64) (4 : Int32) h1) my_X3_putNumber ml_X0_88 rfl rfl rfl (Nat.le_of_ble_eq_true rfl) ⟨by decide, by decide⟩ dX0_putCentre_70 (fun r19 M20 => ?_)
  refine n_aload_n hC 0 rfl dX0_putCentre_73 ?_
  refine n_aload_n hC 1 rfl dX0_putCentre_74 ?_
  refine n_callVv (As := [.ref (b + a1)]) (rest := []) h0 rfl (by decide) hC (c_X0_putNameAndExtra l M20 a0 a1 h0 h1) my_X0_putNameAndExtra ml_X0_99 rfl rfl rfl (Nat.le_of_ble_eq_true rfl) ⟨by decide, by decide⟩ dX0_putCentre_75 (fun r21 M22 => ?_)
  exact n_vret hC dX0_putCentre_78
def g_X0_takeParts_16 (kx : Int32 → Int32 → Me → Option (Unit × Me)) (kb : Int32 × Int32 × Me → Option (Unit × Me)) (a0 : Nat) (a2 : Nat) (x3 : Int32) (x4 : Int32) (M : Me) : Option (Unit × Me) := if (M.1 a0 9) ≤ x4 then kx x3 x4 M else if (3 : Int32) ≤ x4 then kx x3 x4 M else cal (f_X3_number2 M a2 x3) (fun r3 M4 => chk x4 (ln (rf a0 2)) (bnd (sI M4 (rf a0 2) x4.toNatClampNeg r3) (fun M5 => cal (f_X3_number2 M5 a2 (x3 + (2 : Int32))) (fun r6 M7 => chk x4 (ln (rf a0 3)) (bnd (sI M7 (rf a0 3) x4.toNatClampNeg r6) (fun M8 => chk x4 (ln (rf a0 3)) (cal (f_X3_copyTo M8 a2 (x3 + (4 : Int32)) (M8.1 (rf a0 3) x4.toNatClampNeg) (rf a0 4) (x4 * (8 : Int32))) (fun _ M11 => chk x4 (ln (rf a0 3)) (bndV (x3 + ((4 : Int32) + (M11.1 (rf a0 3) x4.toNatClampNeg))) (fun v13 => bndV (x4 + (1 : Int32)) (fun v14 => kb (v13, v14, M11))))))))))))
set_option maxHeartbeats 4000000 in
set_option maxRecDepth 100000 in
theorem b_X0_takeParts_16_g {p : Program} {l : Launch} {e : Env} {s : State} {m : MethodId} {args : Array Value} {below : List Frame} {meth : Method} {c : Code} {D : va_G} {T : Nat → ClassId} {b : Nat} (hC : CX p s m args meth c cX0_takeParts 5 RX0 none D T) (a0 : Nat) (a2 : Nat) (x3 : Int32) (x4 : Int32) (h0 : kd a0 = 0) (h2 : kd a2 = 3) (kx : Int32 → Int32 → Me → Option (Unit × Me)) (hkx : ∀ (x3 : Int32) (x4 : Int32) (M : Me), GN p l e (k2_rm 2 46) s m args below meth c D T b 5 eV 98 [] [] M (kx x3 x4 M)) (kb : Int32 × Int32 × Me → Option (Unit × Me)) (hkb : ∀ z : Int32 × Int32 × Me, GN p l e (k2_rm 2 46) s m args below meth c D T b 5 eV 16 [(0, .ref (b + a0)), (2, .ref (b + a2)), (3, .int z.1), (4, .int z.2.1)] [] z.2.2 (kb z)) (M : Me) : GN p l e (k2_rm 2 46) s m args below meth c D T b 5 eV 16 [(0, .ref (b + a0)), (2, .ref (b + a2)), (3, .int x3), (4, .int x4)] [] M (g_X0_takeParts_16 kx kb a0 a2 x3 x4 M) := by
  unfold g_X0_takeParts_16
  refine n_iload hC 3 rfl dX0_takeParts_16 ?_
  refine n_aload_n hC 0 rfl dX0_takeParts_18 ?_
  refine n_get hC clX0 h0 9 (.int (M.1 a0 9)) (by decide) rfl fl_X0_41 rfl dX0_takeParts_19 ?_
  refine n_icmp_ge hC 98 dX0_takeParts_22 (by decide) ?_ ?_
  · exact GN.sub [] rfl (hkx x3 x4 M)
  refine n_iload hC 3 rfl dX0_takeParts_25 ?_
  refine n_iconst hC (3 : Int32) (by decide) dX0_takeParts_27 ?_
  refine n_icmp_ge hC 98 dX0_takeParts_28 (by decide) ?_ ?_
  · exact GN.sub [] rfl (hkx x3 x4 M)
  refine n_aload_n hC 0 rfl dX0_takeParts_31 ?_
  refine n_get hC clX0 h0 2 (.ref (b + (rf a0 2))) (by decide) rfl fl_X0_18 rfl dX0_takeParts_32 ?_
  refine n_iload hC 3 rfl dX0_takeParts_35 ?_
  refine n_aload_n hC 1 rfl dX0_takeParts_37 ?_
  refine n_iload_n hC 2 rfl dX0_takeParts_38 ?_
  refine n_callVi (As := [.int x3]) (rest := [.int x4, .ref (b + (rf a0 2))]) h2 rfl (by decide) hC (c_X3_number2 l M a2 x3 h2) my_X3_number2 ml_X0_175 rfl rfl rfl (Nat.le_of_ble_eq_true rfl) ⟨by decide, by decide⟩ dX0_takeParts_39 (fun r3 M4 => ?_)
  refine n_iast hC (kf_X0_2 h0) dX0_takeParts_42 (fun M5 => ?_)
  refine n_aload_n hC 0 rfl dX0_takeParts_43 ?_
  refine n_get hC clX0 h0 3 (.ref (b + (rf a0 3))) (by decide) rfl fl_X0_22 rfl dX0_takeParts_44 ?_
  refine n_iload hC 3 rfl dX0_takeParts_47 ?_
  refine n_aload_n hC 1 rfl dX0_takeParts_49 ?_
  refine n_iload_n hC 2 rfl dX0_takeParts_50 ?_
  refine n_iconst hC (2 : Int32) (by decide) dX0_takeParts_51 ?_
  refine n_iadd hC dX0_takeParts_52 ?_
  refine n_callVi (As := [.int (x3 + (2 : Int32))]) (rest := [.int x4, .ref (b + (rf a0 3))]) h2 rfl (by decide) hC (c_X3_number2 l M5 a2 (x3 + (2 : Int32)) h2) my_X3_number2 ml_X0_175 rfl rfl rfl (Nat.le_of_ble_eq_true rfl) ⟨by decide, by decide⟩ dX0_takeParts_53 (fun r6 M7 => ?_)
  refine n_iast hC (kf_X0_3 h0) dX0_takeParts_56 (fun M8 => ?_)
  refine n_aload_n hC 1 rfl dX0_takeParts_57 ?_
  refine n_iload_n hC 2 rfl dX0_takeParts_58 ?_
  refine n_iconst hC (4 : Int32) (by decide) dX0_takeParts_59 ?_
  refine n_iadd hC dX0_takeParts_60 ?_
  refine n_aload_n hC 0 rfl dX0_takeParts_61 ?_
  refine n_get hC clX0 h0 3 (.ref (b + (rf a0 3))) (by decide) rfl fl_X0_22 rfl dX0_takeParts_62 ?_
  refine n_iload hC 3 rfl dX0_takeParts_65 ?_
  refine n_iald hC (kf_X0_3 h0) dX0_takeParts_67 (fun g9 => ?_)
  refine n_aload_n hC 0 rfl dX0_takeParts_68 ?_
  refine n_get hC clX0 h0 4 (.ref (b + (rf a0 4))) (by decide) rfl fl_X0_25 rfl dX0_takeParts_69 ?_
  refine n_iload hC 3 rfl dX0_takeParts_72 ?_
  refine n_bipush hC (8 : Int32) (by decide) dX0_takeParts_74 ?_
  refine n_imul hC dX0_takeParts_76 ?_
  refine n_callVv (As := [.int (x3 + (4 : Int32)), .int (M8.1 (rf a0 3) x4.toNatClampNeg), .ref (b + (rf a0 4)), .int (x4 * (8 : Int32))]) (rest := []) h2 rfl (by decide) hC (c_X3_copyTo l M8 a2 (x3 + (4 : Int32)) (M8.1 (rf a0 3) x4.toNatClampNeg) (rf a0 4) (x4 * (8 : Int32)) h2 (kf_X0_4 h0)) my_X3_copyTo ml_X0_146 rfl rfl rfl (Nat.le_of_ble_eq_true rfl) ⟨by decide, by decide⟩ dX0_takeParts_77 (fun r10 M11 => ?_)
  refine n_iload_n hC 2 rfl dX0_takeParts_80 ?_
  refine n_iconst hC (4 : Int32) (by decide) dX0_takeParts_81 ?_
  refine n_aload_n hC 0 rfl dX0_takeParts_82 ?_
  refine n_get hC clX0 h0 3 (.ref (b + (rf a0 3))) (by decide) rfl fl_X0_22 rfl dX0_takeParts_83 ?_
  refine n_iload hC 3 rfl dX0_takeParts_86 ?_
  refine n_iald hC (kf_X0_3 h0) dX0_takeParts_88 (fun g12 => ?_)
  refine n_iadd hC dX0_takeParts_89 ?_
  refine n_iadd hC dX0_takeParts_90 ?_
  refine n_istB_n hC rfl (fun v13 => [(3, .int v13), (0, .ref (b + a0)), (2, .ref (b + a2)), (4, .int x4)]) (by decide) (fun _ => rfl) dX0_takeParts_91 (fun v13 => ?_)
  refine n_iincB hC (1 : Int32) (by decide) (fun v14 => [(4, .int v14), (3, .int v13), (0, .ref (b + a0)), (2, .ref (b + a2))]) 3 rfl (by decide) (fun _ => rfl) dX0_takeParts_92 (fun v14 => ?_)
  refine n_goto hC (tgt := 16) (by decide) dX0_takeParts_95 ?_
  exact GN.sub [2, 3, 1, 0] rfl (hkb (v13, v14, M11))
def l_X0_takeParts_16 (kx : Int32 → Int32 → Me → Option (Unit × Me)) (a0 : Nat) (a2 : Nat) (x3 : Int32) (x4 : Int32) (M : Me) : Option (Unit × Me) := lp (fun kb z => g_X0_takeParts_16 kx kb a0 a2 z.1 z.2.1 z.2.2) FU (x3, x4, M)
set_option maxHeartbeats 4000000 in
set_option maxRecDepth 100000 in
theorem b_X0_takeParts_16 {p : Program} {l : Launch} {e : Env} {s : State} {m : MethodId} {args : Array Value} {below : List Frame} {meth : Method} {c : Code} {D : va_G} {T : Nat → ClassId} {b : Nat} (hC : CX p s m args meth c cX0_takeParts 5 RX0 none D T) (a0 : Nat) (a2 : Nat) (x3 : Int32) (x4 : Int32) (h0 : kd a0 = 0) (h2 : kd a2 = 3) (kx : Int32 → Int32 → Me → Option (Unit × Me)) (hkx : ∀ (x3 : Int32) (x4 : Int32) (M : Me), GN p l e (k2_rm 2 46) s m args below meth c D T b 5 eV 98 [] [] M (kx x3 x4 M)) (M : Me) : GN p l e (k2_rm 2 46) s m args below meth c D T b 5 eV 16 [(0, .ref (b + a0)), (2, .ref (b + a2)), (3, .int x3), (4, .int x4)] [] M (l_X0_takeParts_16 kx a0 a2 x3 x4 M) := by
  exact n_loop (σ := Int32 × Int32 × Me) (fun z => [(0, .ref (b + a0)), (2, .ref (b + a2)), (3, .int z.1), (4, .int z.2.1)]) (fun z => z.2.2) (fun kb hkb z => b_X0_takeParts_16_g hC a0 a2 z.1 z.2.1 h0 h2 kx hkx kb hkb z.2.2) FU (x3, x4, M)
def f_X0_takeParts (M : Me) (a0 : Nat) (a1 : Nat) (a2 : Nat) : Option (Unit × Me) := bndV (M.1 a1 8) (fun v1 => bnd (sI M a0 9 (M.1 a1 9)) (fun M2 => l_X0_takeParts_16 (fun v15 v16 M17 => some ((), M17)) a0 a2 v1 (0 : Int32) M2))
set_option maxHeartbeats 4000000 in
set_option maxRecDepth 100000 in
theorem c_X0_takeParts (l : Launch) (M : Me) (a0 : Nat) (a1 : Nat) (a2 : Nat) (h0 : kd a0 = 0) (h1 : kd a1 = 2) (h2 : kd a2 = 3) : CN l yX0_takeParts cX0_takeParts 5 none (k2_rm 2 46) eV (fun b => [.ref (b + a0), .ref (b + a1), .ref (b + a2)]) M (f_X0_takeParts M a0 a1 a2) := by
  refine CN.of RX0 (fun b => [(0, .ref (b + a0)), (1, .ref (b + a1)), (2, .ref (b + a2))]) (by decide) rfl (fun b => Nat.le_of_ble_eq_true rfl) (fun b => rfl) ?_
  intro p e s m args below meth c D T b hC
  unfold f_X0_takeParts
  refine n_aload_n hC 1 rfl dX0_takeParts_0 ?_
  refine n_get hC clX2 h1 8 (.int (M.1 a1 8)) (by decide) rfl fl_X0_171 rfl dX0_takeParts_1 ?_
  refine n_istB_n hC rfl (fun v1 => [(3, .int v1), (0, .ref (b + a0)), (1, .ref (b + a1)), (2, .ref (b + a2))]) (by decide) (fun _ => rfl) dX0_takeParts_4 (fun v1 => ?_)
  refine n_aload_n hC 1 rfl dX0_takeParts_5 ?_
  refine n_aload_n hC 2 rfl dX0_takeParts_6 ?_
  refine n_get hC clX2 h1 9 (.int (M.1 a1 9)) (by decide) rfl fl_X0_174 rfl dX0_takeParts_7 ?_
  refine n_putI hC clX0 h0 9 (by decide) rfl rfl rfl fl_X0_41 dX0_takeParts_10 (fun M2 => ?_)
  refine n_iconst hC (0 : Int32) (by decide) dX0_takeParts_13 ?_
  refine n_istore hC [(4, .int (0 : Int32)), (3, .int v1), (0, .ref (b + a0)), (1, .ref (b + a1)), (2, .ref (b + a2))] (by decide) rfl dX0_takeParts_14 ?_
  refine GN.sub [2, 4, 1, 0] rfl (b_X0_takeParts_16 hC a0 a2 v1 (0 : Int32) h0 h2 _ (fun v15 v16 M17 => ?_) M2)
  exact n_vret hC dX0_takeParts_98
def f_X0_takeFrom (M : Me) (a0 : Nat) (a1 : Nat) (a2 : Nat) : Option (Unit × Me) := cal (f_X2_kind M a1) (fun r1 M2 => cal (f_X2_form M2 a1) (fun r3 M4 => cal (f_X0_begin M4 a0 r1 r3) (fun _ M6 => bnd (sI M6 a0 7 (M6.1 a1 6)) (fun M7 => cal (f_X2_namePlace M7 a1) (fun r8 M9 => cal (f_X3_copyTo M9 a2 r8 (M9.1 a0 7) (rf a0 0) (0 : Int32)) (fun _ M11 => bnd (sI M11 a0 14 (M11.1 a1 3)) (fun M12 => bnd (sI M12 a0 15 (M12.1 a1 4)) (fun M13 => bnd (sI M13 a0 16 (M13.1 a1 5)) (fun M14 => bnd (sI M14 a0 17 ((M14.2 a1 17).toInt32)) (fun M15 => cal (f_X0_takeParts M15 a0 a1 a2) (fun _ M17 => if (M17.1 a0 5) = (2 : Int32) then some ((), M17) else chZ (1 : Int32) (bnd (sI M17 a0 10 (1 : Int32)) (fun M18 => bnd (sI M18 a0 8 ((M18.2 a1 15).toInt32)) (fun M19 => cal (f_X2_dataPlace M19 a1) (fun r20 M21 => cal (f_X3_copyTo M21 a2 r20 (M21.1 a0 8) (rf a0 1) (0 : Int32)) (fun _ M23 => chZ (1 : Int32) (bnd (sI M23 a0 11 (1 : Int32)) (fun M24 => bnd (sI M24 a0 13 ((M24.2 a1 12).toInt32)) (fun M25 => if (M25.1 a0 5) = (1 : Int32) then bnd (sI M25 a0 12 ((M25.2 a1 16).toInt32)) (fun M27 => some ((), M27)) else bnd (sI M25 a0 12 (0 : Int32)) (fun M26 => some ((), M26)))))))))))))))))))))
set_option maxHeartbeats 4000000 in
set_option maxRecDepth 100000 in
theorem c_X0_takeFrom (l : Launch) (M : Me) (a0 : Nat) (a1 : Nat) (a2 : Nat) (h0 : kd a0 = 0) (h1 : kd a1 = 2) (h2 : kd a2 = 3) : CN l yX0_takeFrom cX0_takeFrom 3 none (k2_rm 3 70) eV (fun b => [.ref (b + a0), .ref (b + a1), .ref (b + a2)]) M (f_X0_takeFrom M a0 a1 a2) := by
  refine CN.of RX0 (fun b => [(0, .ref (b + a0)), (1, .ref (b + a1)), (2, .ref (b + a2))]) (by decide) rfl (fun b => Nat.le_of_ble_eq_true rfl) (fun b => rfl) ?_
  intro p e s m args below meth c D T b hC
  unfold f_X0_takeFrom
  refine n_aload_n hC 0 rfl dX0_takeFrom_0 ?_
  refine n_aload_n hC 1 rfl dX0_takeFrom_1 ?_
  refine n_callVi (As := []) (rest := [.ref (b + a0)]) h1 rfl (by decide) hC (c_X2_kind l M a1 h1) my_X2_kind ml_X0_130 rfl rfl rfl (Nat.le_of_ble_eq_true rfl) ⟨by decide, by decide⟩ dX0_takeFrom_2 (fun r1 M2 => ?_)
  refine n_aload_n hC 1 rfl dX0_takeFrom_5 ?_
  refine n_callVi (As := []) (rest := [.int r1, .ref (b + a0)]) h1 rfl (by decide) hC (c_X2_form l M2 a1 h1) my_X2_form ml_X0_134 rfl rfl rfl (Nat.le_of_ble_eq_true rfl) ⟨by decide, by decide⟩ dX0_takeFrom_6 (fun r3 M4 => ?_)
  refine n_callVv (As := [.int r1, .int r3]) (rest := []) h0 rfl (by decide) hC (c_X0_begin l M4 a0 r1 r3 h0) my_X0_begin ml_X0_136 rfl rfl rfl (Nat.le_of_ble_eq_true rfl) ⟨by decide, by decide⟩ dX0_takeFrom_9 (fun r5 M6 => ?_)
  refine n_aload_n hC 0 rfl dX0_takeFrom_12 ?_
  refine n_aload_n hC 1 rfl dX0_takeFrom_13 ?_
  refine n_get hC clX2 h1 6 (.int (M6.1 a1 6)) (by decide) rfl fl_X0_140 rfl dX0_takeFrom_14 ?_
  refine n_putI hC clX0 h0 7 (by decide) rfl rfl rfl fl_X0_35 dX0_takeFrom_17 (fun M7 => ?_)
  refine n_aload_n hC 2 rfl dX0_takeFrom_20 ?_
  refine n_aload_n hC 1 rfl dX0_takeFrom_21 ?_
  refine n_callVi (As := []) (rest := [.ref (b + a2)]) h1 rfl (by decide) hC (c_X2_namePlace l M7 a1 h1) my_X2_namePlace ml_X0_143 rfl rfl rfl (Nat.le_of_ble_eq_true rfl) ⟨by decide, by decide⟩ dX0_takeFrom_22 (fun r8 M9 => ?_)
  refine n_aload_n hC 0 rfl dX0_takeFrom_25 ?_
  refine n_get hC clX0 h0 7 (.int (M9.1 a0 7)) (by decide) rfl fl_X0_35 rfl dX0_takeFrom_26 ?_
  refine n_aload_n hC 0 rfl dX0_takeFrom_29 ?_
  refine n_get hC clX0 h0 0 (.ref (b + (rf a0 0))) (by decide) rfl fl_X0_9 rfl dX0_takeFrom_30 ?_
  refine n_iconst hC (0 : Int32) (by decide) dX0_takeFrom_33 ?_
  refine n_callVv (As := [.int r8, .int (M9.1 a0 7), .ref (b + (rf a0 0)), .int (0 : Int32)]) (rest := []) h2 rfl (by decide) hC (c_X3_copyTo l M9 a2 r8 (M9.1 a0 7) (rf a0 0) (0 : Int32) h2 (kf_X0_0 h0)) my_X3_copyTo ml_X0_146 rfl rfl rfl (Nat.le_of_ble_eq_true rfl) ⟨by decide, by decide⟩ dX0_takeFrom_34 (fun r10 M11 => ?_)
  refine n_aload_n hC 0 rfl dX0_takeFrom_37 ?_
  refine n_aload_n hC 1 rfl dX0_takeFrom_38 ?_
  refine n_get hC clX2 h1 3 (.int (M11.1 a1 3)) (by decide) rfl fl_X0_150 rfl dX0_takeFrom_39 ?_
  refine n_putI hC clX0 h0 14 (by decide) rfl rfl rfl fl_X0_57 dX0_takeFrom_42 (fun M12 => ?_)
  refine n_aload_n hC 0 rfl dX0_takeFrom_45 ?_
  refine n_aload_n hC 1 rfl dX0_takeFrom_46 ?_
  refine n_get hC clX2 h1 4 (.int (M12.1 a1 4)) (by decide) rfl fl_X0_151 rfl dX0_takeFrom_47 ?_
  refine n_putI hC clX0 h0 15 (by decide) rfl rfl rfl fl_X0_60 dX0_takeFrom_50 (fun M13 => ?_)
  refine n_aload_n hC 0 rfl dX0_takeFrom_53 ?_
  refine n_aload_n hC 1 rfl dX0_takeFrom_54 ?_
  refine n_get hC clX2 h1 5 (.int (M13.1 a1 5)) (by decide) rfl fl_X0_152 rfl dX0_takeFrom_55 ?_
  refine n_putI hC clX0 h0 16 (by decide) rfl rfl rfl fl_X0_63 dX0_takeFrom_58 (fun M14 => ?_)
  refine n_aload_n hC 0 rfl dX0_takeFrom_61 ?_
  refine n_aload_n hC 1 rfl dX0_takeFrom_62 ?_
  refine n_get hC clX2 h1 17 (.long (M14.2 a1 17)) (by decide) rfl fl_X0_153 rfl dX0_takeFrom_63 ?_
  refine n_l2i hC dX0_takeFrom_66 ?_
  refine n_putI hC clX0 h0 17 (by decide) rfl rfl rfl fl_X0_66 dX0_takeFrom_67 (fun M15 => ?_)
  refine n_aload_n hC 0 rfl dX0_takeFrom_70 ?_
  refine n_aload_n hC 1 rfl dX0_takeFrom_71 ?_
  refine n_aload_n hC 2 rfl dX0_takeFrom_72 ?_
  refine n_callVv (As := [.ref (b + a1), .ref (b + a2)]) (rest := []) h0 rfl (by decide) hC (c_X0_takeParts l M15 a0 a1 a2 h0 h1 h2) my_X0_takeParts ml_X0_156 rfl rfl rfl (Nat.le_of_ble_eq_true rfl) ⟨by decide, by decide⟩ dX0_takeFrom_73 (fun r16 M17 => ?_)
  refine n_aload_n hC 0 rfl dX0_takeFrom_76 ?_
  refine n_get hC clX0 h0 5 (.int (M17.1 a0 5)) (by decide) rfl fl_X0_28 rfl dX0_takeFrom_77 ?_
  refine n_iconst hC (2 : Int32) (by decide) dX0_takeFrom_80 ?_
  refine n_icmp_ne hC 85 dX0_takeFrom_81 (by decide) ?_ ?_
  · refine n_aload_n hC 0 rfl dX0_takeFrom_85 ?_
    refine n_iconst hC (1 : Int32) (by decide) dX0_takeFrom_86 ?_
    refine n_putZ hC clX0 h0 10 (by decide) rfl rfl rfl fl_X0_44 dX0_takeFrom_87 (fun M18 => ?_)
    refine n_aload_n hC 0 rfl dX0_takeFrom_90 ?_
    refine n_aload_n hC 1 rfl dX0_takeFrom_91 ?_
    refine n_get hC clX2 h1 15 (.long (M18.2 a1 15)) (by decide) rfl fl_X0_160 rfl dX0_takeFrom_92 ?_
    refine n_l2i hC dX0_takeFrom_95 ?_
    refine n_putI hC clX0 h0 8 (by decide) rfl rfl rfl fl_X0_38 dX0_takeFrom_96 (fun M19 => ?_)
    refine n_aload_n hC 2 rfl dX0_takeFrom_99 ?_
    refine n_aload_n hC 1 rfl dX0_takeFrom_100 ?_
    refine n_callVi (As := []) (rest := [.ref (b + a2)]) h1 rfl (by decide) hC (c_X2_dataPlace l M19 a1 h1) my_X2_dataPlace ml_X0_163 rfl rfl rfl (Nat.le_of_ble_eq_true rfl) ⟨by decide, by decide⟩ dX0_takeFrom_101 (fun r20 M21 => ?_)
    refine n_aload_n hC 0 rfl dX0_takeFrom_104 ?_
    refine n_get hC clX0 h0 8 (.int (M21.1 a0 8)) (by decide) rfl fl_X0_38 rfl dX0_takeFrom_105 ?_
    refine n_aload_n hC 0 rfl dX0_takeFrom_108 ?_
    refine n_get hC clX0 h0 1 (.ref (b + (rf a0 1))) (by decide) rfl fl_X0_15 rfl dX0_takeFrom_109 ?_
    refine n_iconst hC (0 : Int32) (by decide) dX0_takeFrom_112 ?_
    refine n_callVv (As := [.int r20, .int (M21.1 a0 8), .ref (b + (rf a0 1)), .int (0 : Int32)]) (rest := []) h2 rfl (by decide) hC (c_X3_copyTo l M21 a2 r20 (M21.1 a0 8) (rf a0 1) (0 : Int32) h2 (kf_X0_1 h0)) my_X3_copyTo ml_X0_146 rfl rfl rfl (Nat.le_of_ble_eq_true rfl) ⟨by decide, by decide⟩ dX0_takeFrom_113 (fun r22 M23 => ?_)
    refine n_aload_n hC 0 rfl dX0_takeFrom_116 ?_
    refine n_iconst hC (1 : Int32) (by decide) dX0_takeFrom_117 ?_
    refine n_putZ hC clX0 h0 11 (by decide) rfl rfl rfl fl_X0_48 dX0_takeFrom_118 (fun M24 => ?_)
    refine n_aload_n hC 0 rfl dX0_takeFrom_121 ?_
    refine n_aload_n hC 1 rfl dX0_takeFrom_122 ?_
    refine n_get hC clX2 h1 12 (.long (M24.2 a1 12)) (by decide) rfl fl_X0_166 rfl dX0_takeFrom_123 ?_
    refine n_l2i hC dX0_takeFrom_126 ?_
    refine n_putI hC clX0 h0 13 (by decide) rfl rfl rfl fl_X0_54 dX0_takeFrom_127 (fun M25 => ?_)
    refine n_aload_n hC 0 rfl dX0_takeFrom_130 ?_
    refine n_aload_n hC 0 rfl dX0_takeFrom_131 ?_
    refine n_get hC clX0 h0 5 (.int (M25.1 a0 5)) (by decide) rfl fl_X0_28 rfl dX0_takeFrom_132 ?_
    refine n_iconst hC (1 : Int32) (by decide) dX0_takeFrom_135 ?_
    refine n_icmp_ne hC 147 dX0_takeFrom_136 (by decide) ?_ ?_
    · refine n_iconst hC (0 : Int32) (by decide) dX0_takeFrom_147 ?_
      refine n_putI hC clX0 h0 12 (by decide) rfl rfl rfl fl_X0_51 dX0_takeFrom_148 (fun M26 => ?_)
      exact n_vret hC dX0_takeFrom_151
    refine n_aload_n hC 1 rfl dX0_takeFrom_139 ?_
    refine n_get hC clX2 h1 16 (.long (M25.2 a1 16)) (by decide) rfl fl_X0_169 rfl dX0_takeFrom_140 ?_
    refine n_l2i hC dX0_takeFrom_143 ?_
    refine n_goto hC (tgt := 148) (by decide) dX0_takeFrom_144 ?_
    refine n_putI hC clX0 h0 12 (by decide) rfl rfl rfl fl_X0_51 dX0_takeFrom_148 (fun M27 => ?_)
    exact n_vret hC dX0_takeFrom_151
  exact n_vret hC dX0_takeFrom_84
