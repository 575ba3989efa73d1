def f_X1_fail (M : Me) (a0 : Nat) (x1 : Int32) (x2 : Int32) : Option (Int32 × Me) := bnd (sI M a0 7 x1) (fun M1 => bnd (sI M1 a0 8 x2) (fun M2 => chZ (0 : Int32) (some ((0 : Int32), M2))))
set_option maxHeartbeats 4000000 in
set_option maxRecDepth 100000 in
theorem c_X1_fail (l : Launch) (M : Me) (a0 : Nat) (x1 : Int32) (x2 : Int32) (h0 : kd a0 = 1) : CN l yX1_fail cX1_fail 3 (some .boolean) (k2_rm 0 0) eI (fun b => [.ref (b + a0), .int x1, .int x2]) M (f_X1_fail M a0 x1 x2) := by
  refine CN.of RX1 (fun b => [(0, .ref (b + a0)), (1, .int x1), (2, .int x2)]) (by decide) rfl (fun b => Nat.le_of_ble_eq_true rfl) (fun b => rfl) ?_
  intro p e s m args below meth c D T b hC
  unfold f_X1_fail
  refine n_aload_n hC 0 rfl dX1_fail_0 ?_
  refine n_iload_n hC 1 rfl dX1_fail_1 ?_
  refine n_putI hC clX1 h0 7 (by decide) rfl rfl rfl fl_X1_33 dX1_fail_2 (fun M1 => ?_)
  refine n_aload_n hC 0 rfl dX1_fail_5 ?_
  refine n_iload_n hC 2 rfl dX1_fail_6 ?_
  refine n_putI hC clX1 h0 8 (by decide) rfl rfl rfl fl_X1_36 dX1_fail_7 (fun M2 => ?_)
  refine n_iconst hC (0 : Int32) (by decide) dX1_fail_10 ?_
  exact n_zret hC dX1_fail_11
def j_X1_findEnd_67 (kx : Int32 → Me → Option (Int32 × Me)) (kb : Int32 × Me → Option (Int32 × Me)) (a0 : Nat) (x1 : Int32) (M : Me) : Option (Int32 × Me) := bndV (x1 + (1 : Int32)) (fun v2 => kb (v2, M))
set_option maxHeartbeats 4000000 in
set_option maxRecDepth 100000 in
theorem b_X1_findEnd_67 {p : Program} {l : Launch} {e : Env} {s : State} {m : MethodId} {args : Array Value} {below : List Frame} {meth : Method} {c : Code} {D : va_G} {T : Nat → ClassId} {b : Nat} (hC : CX p s m args meth c cX1_findEnd 3 RX1 (some .boolean) D T) (a0 : Nat) (x1 : Int32) (h0 : kd a0 = 1) (kx : Int32 → Me → Option (Int32 × Me)) (hkx : ∀ (x1 : Int32) (M : Me), GN p l e (k2_rm 3 67) s m args below meth c D T b 3 eI 73 [(0, .ref (b + a0))] [] M (kx x1 M)) (kb : Int32 × Me → Option (Int32 × Me)) (hkb : ∀ z : Int32 × Me, GN p l e (k2_rm 3 67) s m args below meth c D T b 3 eI 2 [(0, .ref (b + a0)), (1, .int z.1)] [] z.2 (kb z)) (M : Me) : GN p l e (k2_rm 3 67) s m args below meth c D T b 3 eI 67 [(0, .ref (b + a0)), (1, .int x1)] [] M (j_X1_findEnd_67 kx kb a0 x1 M) := by
  unfold j_X1_findEnd_67
  refine n_iincB hC (1 : Int32) (by decide) (fun v2 => [(1, .int v2), (0, .ref (b + a0))]) 1 rfl (by decide) (fun _ => rfl) dX1_findEnd_67 (fun v2 => ?_)
  refine n_goto hC (tgt := 2) (by decide) dX1_findEnd_70 ?_
  exact GN.sub [1, 0] rfl (hkb (v2, M))
def g_X1_findEnd_2 (kx : Int32 → Me → Option (Int32 × Me)) (kb : Int32 × Me → Option (Int32 × Me)) (a0 : Nat) (x1 : Int32) (M : Me) : Option (Int32 × Me) := if (12 : Int32) < x1 then kx x1 M else bndV (((M.1 (rf a0 0) 1) - (22 : Int32)) - x1) (fun v1 => if v1 < (0 : Int32) then j_X1_findEnd_67 kx kb a0 x1 M else cal (f_X3_number4 M (rf a0 0) v1) (fun r3 M4 => if (lg_cmp r3 (101010256 : Int64)) = (0 : Int32) then cal (f_X3_number2 M4 (rf a0 0) (v1 + (20 : Int32))) (fun r5 M6 => if r5 = x1 then bnd (sI M6 a0 3 v1) (fun M7 => bnd (sI M7 a0 4 x1) (fun M8 => chZ (1 : Int32) (some ((1 : Int32), M8)))) else j_X1_findEnd_67 kx kb a0 x1 M6) else j_X1_findEnd_67 kx kb a0 x1 M4))
set_option maxHeartbeats 4000000 in
set_option maxRecDepth 100000 in
theorem b_X1_findEnd_2_g {p : Program} {l : Launch} {e : Env} {s : State} {m : MethodId} {args : Array Value} {below : List Frame} {meth : Method} {c : Code} {D : va_G} {T : Nat → ClassId} {b : Nat} (hC : CX p s m args meth c cX1_findEnd 3 RX1 (some .boolean) D T) (a0 : Nat) (x1 : Int32) (h0 : kd a0 = 1) (kx : Int32 → Me → Option (Int32 × Me)) (hkx : ∀ (x1 : Int32) (M : Me), GN p l e (k2_rm 3 67) s m args below meth c D T b 3 eI 73 [(0, .ref (b + a0))] [] M (kx x1 M)) (kb : Int32 × Me → Option (Int32 × Me)) (hkb : ∀ z : Int32 × Me, GN p l e (k2_rm 3 67) s m args below meth c D T b 3 eI 2 [(0, .ref (b + a0)), (1, .int z.1)] [] z.2 (kb z)) (M : Me) : GN p l e (k2_rm 3 67) s m args below meth c D T b 3 eI 2 [(0, .ref (b + a0)), (1, .int x1)] [] M (g_X1_findEnd_2 kx kb a0 x1 M) := by
  unfold g_X1_findEnd_2
  refine n_iload_n hC 1 rfl dX1_findEnd_2 ?_
  refine n_bipush hC (12 : Int32) (by decide) dX1_findEnd_3 ?_
  refine n_icmp_gt hC 73 dX1_findEnd_5 (by decide) ?_ ?_
  · exact GN.sub [0] rfl (hkx x1 M)
  refine n_aload_n hC 0 rfl dX1_findEnd_8 ?_
  refine n_get hC clX1 h0 0 (.ref (b + (rf a0 0))) (by decide) rfl fl_X1_39 rfl dX1_findEnd_9 ?_
  refine n_get hC clX3 (kf_X1_0 h0) 1 (.int (M.1 (rf a0 0) 1)) (by decide) rfl fl_X1_58 rfl dX1_findEnd_12 ?_
  refine n_bipush hC (22 : Int32) (by decide) dX1_findEnd_15 ?_
  refine n_isub hC dX1_findEnd_17 ?_
  refine n_iload_n hC 1 rfl dX1_findEnd_18 ?_
  refine n_isub hC dX1_findEnd_19 ?_
  refine n_istB_n hC rfl (fun v1 => [(2, .int v1), (0, .ref (b + a0)), (1, .int x1)]) (by decide) (fun _ => rfl) dX1_findEnd_20 (fun v1 => ?_)
  refine n_iload_n hC 0 rfl dX1_findEnd_21 ?_
  refine n_if_lt hC 67 dX1_findEnd_22 (by decide) ?_ ?_
  · exact GN.sub [1, 2] rfl (b_X1_findEnd_67 hC a0 x1 h0 kx hkx kb hkb M)
  refine n_aload_n hC 1 rfl dX1_findEnd_25 ?_
  refine n_get hC clX1 h0 0 (.ref (b + (rf a0 0))) (by decide) rfl fl_X1_39 rfl dX1_findEnd_26 ?_
  refine n_iload_n hC 0 rfl dX1_findEnd_29 ?_
  refine n_callVl (As := [.int v1]) (rest := []) (kf_X1_0 h0) rfl (by decide) hC (c_X3_number4 l M (rf a0 0) v1 (kf_X1_0 h0)) my_X3_number4 ml_X1_63 rfl rfl rfl (Nat.le_of_ble_eq_true rfl) ⟨by decide, by decide⟩ dX1_findEnd_30 (fun r3 M4 => ?_)
  refine n_ldc2 hC (101010256 : Int64) kc_X1_67 dX1_findEnd_33 ?_
  refine n_lcmp hC dX1_findEnd_36 ?_
  refine n_if_ne hC 67 dX1_findEnd_37 (by decide) ?_ ?_
  · exact GN.sub [1, 2] rfl (b_X1_findEnd_67 hC a0 x1 h0 kx hkx kb hkb M4)
  refine n_aload_n hC 1 rfl dX1_findEnd_40 ?_
  refine n_get hC clX1 h0 0 (.ref (b + (rf a0 0))) (by decide) rfl fl_X1_39 rfl dX1_findEnd_41 ?_
  refine n_iload_n hC 0 rfl dX1_findEnd_44 ?_
  refine n_bipush hC (20 : Int32) (by decide) dX1_findEnd_45 ?_
  refine n_iadd hC dX1_findEnd_47 ?_
  refine n_callVi (As := [.int (v1 + (20 : Int32))]) (rest := []) (kf_X1_0 h0) rfl (by decide) hC (c_X3_number2 l M4 (rf a0 0) (v1 + (20 : Int32)) (kf_X1_0 h0)) my_X3_number2 ml_X1_69 rfl rfl rfl (Nat.le_of_ble_eq_true rfl) ⟨by decide, by decide⟩ dX1_findEnd_48 (fun r5 M6 => ?_)
  refine n_iload_n hC 2 rfl dX1_findEnd_51 ?_
  refine n_icmp_ne hC 67 dX1_findEnd_52 (by decide) ?_ ?_
  · exact GN.sub [1, 2] rfl (b_X1_findEnd_67 hC a0 x1 h0 kx hkx kb hkb M6)
  refine n_aload_n hC 1 rfl dX1_findEnd_55 ?_
  refine n_iload_n hC 0 rfl dX1_findEnd_56 ?_
  refine n_putI hC clX1 h0 3 (by decide) rfl rfl rfl fl_X1_21 dX1_findEnd_57 (fun M7 => ?_)
  refine n_aload_n hC 1 rfl dX1_findEnd_60 ?_
  refine n_iload_n hC 2 rfl dX1_findEnd_61 ?_
  refine n_putI hC clX1 h0 4 (by decide) rfl rfl rfl fl_X1_24 dX1_findEnd_62 (fun M8 => ?_)
  refine n_iconst hC (1 : Int32) (by decide) dX1_findEnd_65 ?_
  exact n_zret hC dX1_findEnd_66
def l_X1_findEnd_2 (kx : Int32 → Me → Option (Int32 × Me)) (a0 : Nat) (x1 : Int32) (M : Me) : Option (Int32 × Me) := lp (fun kb z => g_X1_findEnd_2 kx kb a0 z.1 z.2) FU (x1, M)
set_option maxHeartbeats 4000000 in
set_option maxRecDepth 100000 in
theorem b_X1_findEnd_2 {p : Program} {l : Launch} {e : Env} {s : State} {m : MethodId} {args : Array Value} {below : List Frame} {meth : Method} {c : Code} {D : va_G} {T : Nat → ClassId} {b : Nat} (hC : CX p s m args meth c cX1_findEnd 3 RX1 (some .boolean) D T) (a0 : Nat) (x1 : Int32) (h0 : kd a0 = 1) (kx : Int32 → Me → Option (Int32 × Me)) (hkx : ∀ (x1 : Int32) (M : Me), GN p l e (k2_rm 3 67) s m args below meth c D T b 3 eI 73 [(0, .ref (b + a0))] [] M (kx x1 M)) (M : Me) : GN p l e (k2_rm 3 67) s m args below meth c D T b 3 eI 2 [(0, .ref (b + a0)), (1, .int x1)] [] M (l_X1_findEnd_2 kx a0 x1 M) := by
  exact n_loop (σ := Int32 × Me) (fun z => [(0, .ref (b + a0)), (1, .int z.1)]) (fun z => z.2) (fun kb hkb z => b_X1_findEnd_2_g hC a0 z.1 h0 kx hkx kb hkb z.2) FU (x1, M)
def f_X1_findEnd (M : Me) (a0 : Nat) : Option (Int32 × Me) := l_X1_findEnd_2 (fun v9 M10 => cal (f_X1_fail M10 a0 (1 : Int32) (M10.1 (rf a0 0) 1)) (fun r11 M12 => chZ r11 (some (r11, M12)))) a0 (0 : Int32) M
set_option maxHeartbeats 4000000 in
set_option maxRecDepth 100000 in
theorem c_X1_findEnd (l : Launch) (M : Me) (a0 : Nat) (h0 : kd a0 = 1) : CN l yX1_findEnd cX1_findEnd 3 (some .boolean) (k2_rm 3 67) eI (fun b => [.ref (b + a0)]) M (f_X1_findEnd M a0) := by
  refine CN.of RX1 (fun b => [(0, .ref (b + a0))]) (by decide) rfl (fun b => Nat.le_of_ble_eq_true rfl) (fun b => rfl) ?_
  intro p e s m args below meth c D T b hC
  unfold f_X1_findEnd
  refine n_iconst hC (0 : Int32) (by decide) dX1_findEnd_0 ?_
  refine n_istore_n hC rfl [(1, .int (0 : Int32)), (0, .ref (b + a0))] (by decide) rfl dX1_findEnd_1 ?_
  refine GN.sub [1, 0] rfl (b_X1_findEnd_2 hC a0 (0 : Int32) h0 _ (fun v9 M10 => ?_) M)
  refine n_aload_n hC 0 rfl dX1_findEnd_73 ?_
  refine n_iconst hC (1 : Int32) (by decide) dX1_findEnd_74 ?_
  refine n_aload_n hC 0 rfl dX1_findEnd_75 ?_
  refine n_get hC clX1 h0 0 (.ref (b + (rf a0 0))) (by decide) rfl fl_X1_39 rfl dX1_findEnd_76 ?_
  refine n_get hC clX3 (kf_X1_0 h0) 1 (.int (M10.1 (rf a0 0) 1)) (by decide) rfl fl_X1_58 rfl dX1_findEnd_79 ?_
  refine n_callVi (As := [.int (1 : Int32), .int (M10.1 (rf a0 0) 1)]) (rest := []) h0 rfl (by decide) hC (c_X1_fail l M10 a0 (1 : Int32) (M10.1 (rf a0 0) 1) h0) my_X1_fail ml_X1_73 rfl rfl rfl (Nat.le_of_ble_eq_true rfl) ⟨by decide, by decide⟩ dX1_findEnd_82 (fun r11 M12 => ?_)
  exact n_zret hC dX1_findEnd_85
def j_X1_hasDataAsTold_38 (a0 : Nat) (a1 : Nat) (x2 : Int32) (x3 : Int32) (s0 : Int32) (s1 : Nat) (M : Me) : Option (Int32 × Me) := bnd (sI M s1 18 s0) (fun M6 => if (M6.1 a1 18) ≤ (M6.1 a0 5) then if x3 = (0 : Int32) then chZ (1 : Int32) (some ((1 : Int32), M6)) else cal (f_X3_number4 M6 (rf a0 0) x2) (fun r7 M8 => if (lg_cmp r7 (134695760 : Int64)) = (0 : Int32) then cal (f_X3_isSame M8 (rf a0 0) (x2 + (4 : Int32)) ((M8.1 a1 0) + (16 : Int32)) (12 : Int32)) (fun r9 M10 => if r9 = (0 : Int32) then chZ (0 : Int32) (some ((0 : Int32), M10)) else chZ (1 : Int32) (some ((1 : Int32), M10))) else chZ (0 : Int32) (some ((0 : Int32), M8))) else chZ (0 : Int32) (some ((0 : Int32), M6)))
set_option maxHeartbeats 4000000 in
set_option maxRecDepth 100000 in
theorem b_X1_hasDataAsTold_38 {p : Program} {l : Launch} {e : Env} {s : State} {m : MethodId} {args : Array Value} {below : List Frame} {meth : Method} {c : Code} {D : va_G} {T : Nat → ClassId} {b : Nat} (hC : CX p s m args meth c cX1_hasDataAsTold 4 RX1 (some .boolean) D T) (a0 : Nat) (a1 : Nat) (x2 : Int32) (x3 : Int32) (s0 : Int32) (s1 : Nat) (h0 : kd a0 = 1) (h1 : kd a1 = 2) (hs1 : kd s1 = 2) (M : Me) : GN p l e (k2_rm 3 67) s m args below meth c D T b 4 eI 38 [(0, .ref (b + a0)), (1, .ref (b + a1)), (2, .int x2), (3, .int x3)] [.int s0, .ref (b + s1)] M (j_X1_hasDataAsTold_38 a0 a1 x2 x3 s0 s1 M) := by
  unfold j_X1_hasDataAsTold_38
  refine n_putI hC clX2 hs1 18 (by decide) rfl rfl rfl fl_X1_149 dX1_hasDataAsTold_38 (fun M6 => ?_)
  refine n_aload_n hC 1 rfl dX1_hasDataAsTold_41 ?_
  refine n_get hC clX2 h1 18 (.int (M6.1 a1 18)) (by decide) rfl fl_X1_149 rfl dX1_hasDataAsTold_42 ?_
  refine n_aload_n hC 0 rfl dX1_hasDataAsTold_45 ?_
  refine n_get hC clX1 h0 5 (.int (M6.1 a0 5)) (by decide) rfl fl_X1_27 rfl dX1_hasDataAsTold_46 ?_
  refine n_icmp_le hC 54 dX1_hasDataAsTold_49 (by decide) ?_ ?_
  · refine n_iload_n hC 3 rfl dX1_hasDataAsTold_54 ?_
    refine n_if_eq hC 95 dX1_hasDataAsTold_55 (by decide) ?_ ?_
    · refine n_iconst hC (1 : Int32) (by decide) dX1_hasDataAsTold_95 ?_
      refine n_goto hC (tgt := 100) (by decide) dX1_hasDataAsTold_96 ?_
      exact n_zret hC dX1_hasDataAsTold_100
    refine n_aload_n hC 0 rfl dX1_hasDataAsTold_58 ?_
    refine n_get hC clX1 h0 0 (.ref (b + (rf a0 0))) (by decide) rfl fl_X1_39 rfl dX1_hasDataAsTold_59 ?_
    refine n_iload_n hC 2 rfl dX1_hasDataAsTold_62 ?_
    refine n_callVl (As := [.int x2]) (rest := []) (kf_X1_0 h0) rfl (by decide) hC (c_X3_number4 l M6 (rf a0 0) x2 (kf_X1_0 h0)) my_X3_number4 ml_X1_63 rfl rfl rfl (Nat.le_of_ble_eq_true rfl) ⟨by decide, by decide⟩ dX1_hasDataAsTold_63 (fun r7 M8 => ?_)
    refine n_ldc2 hC (134695760 : Int64) kc_X1_152 dX1_hasDataAsTold_66 ?_
    refine n_lcmp hC dX1_hasDataAsTold_69 ?_
    refine n_if_ne hC 99 dX1_hasDataAsTold_70 (by decide) ?_ ?_
    · refine n_iconst hC (0 : Int32) (by decide) dX1_hasDataAsTold_99 ?_
      exact n_zret hC dX1_hasDataAsTold_100
    refine n_aload_n hC 0 rfl dX1_hasDataAsTold_73 ?_
    refine n_get hC clX1 h0 0 (.ref (b + (rf a0 0))) (by decide) rfl fl_X1_39 rfl dX1_hasDataAsTold_74 ?_
    refine n_iload_n hC 2 rfl dX1_hasDataAsTold_77 ?_
    refine n_iconst hC (4 : Int32) (by decide) dX1_hasDataAsTold_78 ?_
    refine n_iadd hC dX1_hasDataAsTold_79 ?_
    refine n_aload_n hC 1 rfl dX1_hasDataAsTold_80 ?_
    refine n_get hC clX2 h1 0 (.int (M8.1 a1 0)) (by decide) rfl fl_X1_94 rfl dX1_hasDataAsTold_81 ?_
    refine n_bipush hC (16 : Int32) (by decide) dX1_hasDataAsTold_84 ?_
    refine n_iadd hC dX1_hasDataAsTold_86 ?_
    refine n_bipush hC (12 : Int32) (by decide) dX1_hasDataAsTold_87 ?_
    refine n_callVi (As := [.int (x2 + (4 : Int32)), .int ((M8.1 a1 0) + (16 : Int32)), .int (12 : Int32)]) (rest := []) (kf_X1_0 h0) rfl (by decide) hC (c_X3_isSame l M8 (rf a0 0) (x2 + (4 : Int32)) ((M8.1 a1 0) + (16 : Int32)) (12 : Int32) (kf_X1_0 h0)) my_X3_isSame ml_X1_127 rfl rfl rfl (Nat.le_of_ble_eq_true rfl) ⟨by decide, by decide⟩ dX1_hasDataAsTold_89 (fun r9 M10 => ?_)
    refine n_if_eq hC 99 dX1_hasDataAsTold_92 (by decide) ?_ ?_
    · refine n_iconst hC (0 : Int32) (by decide) dX1_hasDataAsTold_99 ?_
      exact n_zret hC dX1_hasDataAsTold_100
    refine n_iconst hC (1 : Int32) (by decide) dX1_hasDataAsTold_95 ?_
    refine n_goto hC (tgt := 100) (by decide) dX1_hasDataAsTold_96 ?_
    exact n_zret hC dX1_hasDataAsTold_100
  refine n_iconst hC (0 : Int32) (by decide) dX1_hasDataAsTold_52 ?_
  exact n_zret hC dX1_hasDataAsTold_53
def j_X1_hasDataAsTold_24 (a0 : Nat) (a1 : Nat) (x2 : Int32) (s0 : Int32) (M : Me) : Option (Int32 × Me) := if s0 = (0 : Int32) then j_X1_hasDataAsTold_38 a0 a1 x2 s0 x2 a1 M else j_X1_hasDataAsTold_38 a0 a1 x2 s0 (x2 + (16 : Int32)) a1 M
set_option maxHeartbeats 4000000 in
set_option maxRecDepth 100000 in
theorem b_X1_hasDataAsTold_24 {p : Program} {l : Launch} {e : Env} {s : State} {m : MethodId} {args : Array Value} {below : List Frame} {meth : Method} {c : Code} {D : va_G} {T : Nat → ClassId} {b : Nat} (hC : CX p s m args meth c cX1_hasDataAsTold 4 RX1 (some .boolean) D T) (a0 : Nat) (a1 : Nat) (x2 : Int32) (s0 : Int32) (h0 : kd a0 = 1) (h1 : kd a1 = 2) (M : Me) : GN p l e (k2_rm 3 67) s m args below meth c D T b 4 eI 24 [(0, .ref (b + a0)), (1, .ref (b + a1)), (2, .int x2)] [.int s0] M (j_X1_hasDataAsTold_24 a0 a1 x2 s0 M) := by
  unfold j_X1_hasDataAsTold_24
  refine n_istore_n hC rfl [(3, .int s0), (0, .ref (b + a0)), (1, .ref (b + a1)), (2, .int x2)] (by decide) rfl dX1_hasDataAsTold_24 ?_
  refine n_aload_n hC 2 rfl dX1_hasDataAsTold_25 ?_
  refine n_iload_n hC 0 rfl dX1_hasDataAsTold_26 ?_
  refine n_if_eq hC 37 dX1_hasDataAsTold_27 (by decide) ?_ ?_
  · refine n_iload_n hC 3 rfl dX1_hasDataAsTold_37 ?_
    exact GN.sub [1, 2, 3, 0] rfl (b_X1_hasDataAsTold_38 hC a0 a1 x2 s0 x2 a1 h0 h1 h1 M)
  refine n_iload_n hC 3 rfl dX1_hasDataAsTold_30 ?_
  refine n_bipush hC (16 : Int32) (by decide) dX1_hasDataAsTold_31 ?_
  refine n_iadd hC dX1_hasDataAsTold_33 ?_
  refine n_goto hC (tgt := 38) (by decide) dX1_hasDataAsTold_34 ?_
  exact GN.sub [1, 2, 3, 0] rfl (b_X1_hasDataAsTold_38 hC a0 a1 x2 s0 (x2 + (16 : Int32)) a1 h0 h1 h1 M)
def f_X1_hasDataAsTold (M : Me) (a0 : Nat) (a1 : Nat) : Option (Int32 × Me) := cal (f_X2_dataPlace M a1) (fun r1 M2 => bndV (r1 + (M2.2 a1 15).toInt32) (fun v3 => cal (f_X2_form M2 a1) (fun r4 M5 => if r4 = (1 : Int32) then j_X1_hasDataAsTold_24 a0 a1 v3 (1 : Int32) M5 else j_X1_hasDataAsTold_24 a0 a1 v3 (0 : Int32) M5)))
set_option maxHeartbeats 4000000 in
set_option maxRecDepth 100000 in
theorem c_X1_hasDataAsTold (l : Launch) (M : Me) (a0 : Nat) (a1 : Nat) (h0 : kd a0 = 1) (h1 : kd a1 = 2) : CN l yX1_hasDataAsTold cX1_hasDataAsTold 4 (some .boolean) (k2_rm 3 67) eI (fun b => [.ref (b + a0), .ref (b + a1)]) M (f_X1_hasDataAsTold M a0 a1) := by
  refine CN.of RX1 (fun b => [(0, .ref (b + a0)), (1, .ref (b + a1))]) (by decide) rfl (fun b => Nat.le_of_ble_eq_true rfl) (fun b => rfl) ?_
  intro p e s m args below meth c D T b hC
  unfold f_X1_hasDataAsTold
  refine n_aload_n hC 1 rfl dX1_hasDataAsTold_0 ?_
  refine n_callVi (As := []) (rest := []) h1 rfl (by decide) hC (c_X2_dataPlace l M a1 h1) my_X2_dataPlace ml_X1_114 rfl rfl rfl (Nat.le_of_ble_eq_true rfl) ⟨by decide, by decide⟩ dX1_hasDataAsTold_1 (fun r1 M2 => ?_)
  refine n_aload_n hC 1 rfl dX1_hasDataAsTold_4 ?_
  refine n_get hC clX2 h1 15 (.long (M2.2 a1 15)) (by decide) rfl fl_X1_146 rfl dX1_hasDataAsTold_5 ?_
  refine n_l2i hC dX1_hasDataAsTold_8 ?_
  refine n_iadd hC dX1_hasDataAsTold_9 ?_
  refine n_istB_n hC rfl (fun v3 => [(2, .int v3), (0, .ref (b + a0)), (1, .ref (b + a1))]) (by decide) (fun _ => rfl) dX1_hasDataAsTold_10 (fun v3 => ?_)
  refine n_aload_n hC 2 rfl dX1_hasDataAsTold_11 ?_
  refine n_callVi (As := []) (rest := []) h1 rfl (by decide) hC (c_X2_form l M2 a1 h1) my_X2_form ml_X1_140 rfl rfl rfl (Nat.le_of_ble_eq_true rfl) ⟨by decide, by decide⟩ dX1_hasDataAsTold_12 (fun r4 M5 => ?_)
  refine n_iconst hC (1 : Int32) (by decide) dX1_hasDataAsTold_15 ?_
  refine n_icmp_ne hC 23 dX1_hasDataAsTold_16 (by decide) ?_ ?_
  · refine n_iconst hC (0 : Int32) (by decide) dX1_hasDataAsTold_23 ?_
    exact GN.sub [1, 2, 0] rfl (b_X1_hasDataAsTold_24 hC a0 a1 v3 (0 : Int32) h0 h1 M5)
  refine n_iconst hC (1 : Int32) (by decide) dX1_hasDataAsTold_19 ?_
  refine n_goto hC (tgt := 24) (by decide) dX1_hasDataAsTold_20 ?_
  exact GN.sub [1, 2, 0] rfl (b_X1_hasDataAsTold_24 hC a0 a1 v3 (1 : Int32) h0 h1 M5)
def f_X1_hasLocal (M : Me) (a0 : Nat) (a1 : Nat) : Option (Int32 × Me) := if (lg_cmp ((M.2 a1 17) + (30 : Int64)) (((M.1 a0 5)).toInt64)) ≤ (0 : Int32) then bndV ((M.2 a1 17).toInt32) (fun v1 => cal (f_X3_number2 M (rf a0 0) (v1 + (26 : Int32))) (fun r2 M3 => cal (f_X3_number2 M3 (rf a0 0) (v1 + (28 : Int32))) (fun r4 M5 => bndV (((30 : Int32) + r2) + r4) (fun v6 => cal (f_X3_number4 M5 (rf a0 0) v1) (fun r7 M8 => if (lg_cmp r7 (67324752 : Int64)) = (0 : Int32) then if (M8.1 a0 5) < (v1 + v6) then chZ (0 : Int32) (some ((0 : Int32), M8)) else chZ (1 : Int32) (some ((1 : Int32), M8)) else chZ (0 : Int32) (some ((0 : Int32), M8))))))) else chZ (0 : Int32) (some ((0 : Int32), M))
set_option maxHeartbeats 4000000 in
set_option maxRecDepth 100000 in
theorem c_X1_hasLocal (l : Launch) (M : Me) (a0 : Nat) (a1 : Nat) (h0 : kd a0 = 1) (h1 : kd a1 = 2) : CN l yX1_hasLocal cX1_hasLocal 4 (some .boolean) (k2_rm 3 67) eI (fun b => [.ref (b + a0), .ref (b + a1)]) M (f_X1_hasLocal M a0 a1) := by
  refine CN.of RX1 (fun b => [(0, .ref (b + a0)), (1, .ref (b + a1))]) (by decide) rfl (fun b => Nat.le_of_ble_eq_true rfl) (fun b => rfl) ?_
  intro p e s m args below meth c D T b hC
  unfold f_X1_hasLocal
  refine n_aload_n hC 1 rfl dX1_hasLocal_0 ?_
  refine n_get hC clX2 h1 17 (.long (M.2 a1 17)) (by decide) rfl fl_X1_104 rfl dX1_hasLocal_1 ?_
  refine n_ldc2 hC (30 : Int64) kc_X1_123 dX1_hasLocal_4 ?_
  refine n_ladd hC dX1_hasLocal_7 ?_
  refine n_aload_n hC 0 rfl dX1_hasLocal_8 ?_
  refine n_get hC clX1 h0 5 (.int (M.1 a0 5)) (by decide) rfl fl_X1_27 rfl dX1_hasLocal_9 ?_
  refine n_i2l hC dX1_hasLocal_12 ?_
  refine n_lcmp hC dX1_hasLocal_13 ?_
  refine n_if_le hC 19 dX1_hasLocal_14 (by decide) ?_ ?_
  · refine n_aload_n hC 1 rfl dX1_hasLocal_19 ?_
    refine n_get hC clX2 h1 17 (.long (M.2 a1 17)) (by decide) rfl fl_X1_104 rfl dX1_hasLocal_20 ?_
    refine n_l2i hC dX1_hasLocal_23 ?_
    refine n_istB_n hC rfl (fun v1 => [(2, .int v1), (0, .ref (b + a0)), (1, .ref (b + a1))]) (by decide) (fun _ => rfl) dX1_hasLocal_24 (fun v1 => ?_)
    refine n_bipush hC (30 : Int32) (by decide) dX1_hasLocal_25 ?_
    refine n_aload_n hC 1 rfl dX1_hasLocal_27 ?_
    refine n_get hC clX1 h0 0 (.ref (b + (rf a0 0))) (by decide) rfl fl_X1_39 rfl dX1_hasLocal_28 ?_
    refine n_iload_n hC 0 rfl dX1_hasLocal_31 ?_
    refine n_bipush hC (26 : Int32) (by decide) dX1_hasLocal_32 ?_
    refine n_iadd hC dX1_hasLocal_34 ?_
    refine n_callVi (As := [.int (v1 + (26 : Int32))]) (rest := [.int (30 : Int32)]) (kf_X1_0 h0) rfl (by decide) hC (c_X3_number2 l M (rf a0 0) (v1 + (26 : Int32)) (kf_X1_0 h0)) my_X3_number2 ml_X1_69 rfl rfl rfl (Nat.le_of_ble_eq_true rfl) ⟨by decide, by decide⟩ dX1_hasLocal_35 (fun r2 M3 => ?_)
    refine n_iadd hC dX1_hasLocal_38 ?_
    refine n_aload_n hC 1 rfl dX1_hasLocal_39 ?_
    refine n_get hC clX1 h0 0 (.ref (b + (rf a0 0))) (by decide) rfl fl_X1_39 rfl dX1_hasLocal_40 ?_
    refine n_iload_n hC 0 rfl dX1_hasLocal_43 ?_
    refine n_bipush hC (28 : Int32) (by decide) dX1_hasLocal_44 ?_
    refine n_iadd hC dX1_hasLocal_46 ?_
    refine n_callVi (As := [.int (v1 + (28 : Int32))]) (rest := [.int ((30 : Int32) + r2)]) (kf_X1_0 h0) rfl (by decide) hC (c_X3_number2 l M3 (rf a0 0) (v1 + (28 : Int32)) (kf_X1_0 h0)) my_X3_number2 ml_X1_69 rfl rfl rfl (Nat.le_of_ble_eq_true rfl) ⟨by decide, by decide⟩ dX1_hasLocal_47 (fun r4 M5 => ?_)
    refine n_iadd hC dX1_hasLocal_50 ?_
    refine n_istB_n hC rfl (fun v6 => [(3, .int v6), (2, .int v1), (0, .ref (b + a0)), (1, .ref (b + a1))]) (by decide) (fun _ => rfl) dX1_hasLocal_51 (fun v6 => ?_)
    refine n_aload_n hC 2 rfl dX1_hasLocal_52 ?_
    refine n_get hC clX1 h0 0 (.ref (b + (rf a0 0))) (by decide) rfl fl_X1_39 rfl dX1_hasLocal_53 ?_
    refine n_iload_n hC 1 rfl dX1_hasLocal_56 ?_
    refine n_callVl (As := [.int v1]) (rest := []) (kf_X1_0 h0) rfl (by decide) hC (c_X3_number4 l M5 (rf a0 0) v1 (kf_X1_0 h0)) my_X3_number4 ml_X1_63 rfl rfl rfl (Nat.le_of_ble_eq_true rfl) ⟨by decide, by decide⟩ dX1_hasLocal_57 (fun r7 M8 => ?_)
    refine n_ldc2 hC (67324752 : Int64) kc_X1_125 dX1_hasLocal_60 ?_
    refine n_lcmp hC dX1_hasLocal_63 ?_
    refine n_if_ne hC 81 dX1_hasLocal_64 (by decide) ?_ ?_
    · refine n_iconst hC (0 : Int32) (by decide) dX1_hasLocal_81 ?_
      exact n_zret hC dX1_hasLocal_82
    refine n_iload_n hC 1 rfl dX1_hasLocal_67 ?_
    refine n_iload_n hC 0 rfl dX1_hasLocal_68 ?_
    refine n_iadd hC dX1_hasLocal_69 ?_
    refine n_aload_n hC 2 rfl dX1_hasLocal_70 ?_
    refine n_get hC clX1 h0 5 (.int (M8.1 a0 5)) (by decide) rfl fl_X1_27 rfl dX1_hasLocal_71 ?_
    refine n_icmp_gt hC 81 dX1_hasLocal_74 (by decide) ?_ ?_
    · refine n_iconst hC (0 : Int32) (by decide) dX1_hasLocal_81 ?_
      exact n_zret hC dX1_hasLocal_82
    refine n_iconst hC (1 : Int32) (by decide) dX1_hasLocal_77 ?_
    refine n_goto hC (tgt := 82) (by decide) dX1_hasLocal_78 ?_
    exact n_zret hC dX1_hasLocal_82
  refine n_iconst hC (0 : Int32) (by decide) dX1_hasLocal_17 ?_
  exact n_zret hC dX1_hasLocal_18
def f_X1_isLocalAsTold (M : Me) (a0 : Nat) (a1 : Nat) : Option (Int32 × Me) := bndV ((M.2 a1 17).toInt32) (fun v1 => cal (f_X3_isSame M (rf a0 0) (v1 + (4 : Int32)) ((M.1 a1 0) + (6 : Int32)) (10 : Int32)) (fun r2 M3 => if r2 = (0 : Int32) then chZ (0 : Int32) (some ((0 : Int32), M3)) else cal (f_X3_isSame M3 (rf a0 0) (v1 + (26 : Int32)) ((M3.1 a1 0) + (28 : Int32)) (4 : Int32)) (fun r4 M5 => if r4 = (0 : Int32) then chZ (0 : Int32) (some ((0 : Int32), M5)) else cal (f_X2_namePlace M5 a1) (fun r6 M7 => cal (f_X3_isSame M7 (rf a0 0) (v1 + (30 : Int32)) r6 ((M7.1 a1 6) + (M7.1 a1 7))) (fun r8 M9 => if r8 = (0 : Int32) then chZ (0 : Int32) (some ((0 : Int32), M9)) else cal (f_X2_form M9 a1) (fun r10 M11 => if r10 = (1 : Int32) then cal (f_X3_number4 M11 (rf a0 0) (v1 + (14 : Int32))) (fun r14 M15 => if (lg_cmp r14 (0 : Int64)) = (0 : Int32) then cal (f_X3_number8 M15 (rf a0 0) (v1 + (18 : Int32))) (fun r16 M17 => if (lg_cmp r16 (0 : Int64)) = (0 : Int32) then chZ (1 : Int32) (some ((1 : Int32), M17)) else chZ (0 : Int32) (some ((0 : Int32), M17))) else chZ (0 : Int32) (some ((0 : Int32), M15))) else cal (f_X3_isSame M11 (rf a0 0) (v1 + (14 : Int32)) ((M11.1 a1 0) + (16 : Int32)) (12 : Int32)) (fun r12 M13 => chZ r12 (some (r12, M13)))))))))
set_option maxHeartbeats 4000000 in
set_option maxRecDepth 100000 in
theorem c_X1_isLocalAsTold (l : Launch) (M : Me) (a0 : Nat) (a1 : Nat) (h0 : kd a0 = 1) (h1 : kd a1 = 2) : CN l yX1_isLocalAsTold cX1_isLocalAsTold 3 (some .boolean) (k2_rm 3 67) eI (fun b => [.ref (b + a0), .ref (b + a1)]) M (f_X1_isLocalAsTold M a0 a1) := by
  refine CN.of RX1 (fun b => [(0, .ref (b + a0)), (1, .ref (b + a1))]) (by decide) rfl (fun b => Nat.le_of_ble_eq_true rfl) (fun b => rfl) ?_
  intro p e s m args below meth c D T b hC
  unfold f_X1_isLocalAsTold
  refine n_aload_n hC 1 rfl dX1_isLocalAsTold_0 ?_
  refine n_get hC clX2 h1 17 (.long (M.2 a1 17)) (by decide) rfl fl_X1_104 rfl dX1_isLocalAsTold_1 ?_
  refine n_l2i hC dX1_isLocalAsTold_4 ?_
  refine n_istB_n hC rfl (fun v1 => [(2, .int v1), (0, .ref (b + a0)), (1, .ref (b + a1))]) (by decide) (fun _ => rfl) dX1_isLocalAsTold_5 (fun v1 => ?_)
  refine n_aload_n hC 1 rfl dX1_isLocalAsTold_6 ?_
  refine n_get hC clX1 h0 0 (.ref (b + (rf a0 0))) (by decide) rfl fl_X1_39 rfl dX1_isLocalAsTold_7 ?_
  refine n_iload_n hC 0 rfl dX1_isLocalAsTold_10 ?_
  refine n_iconst hC (4 : Int32) (by decide) dX1_isLocalAsTold_11 ?_
  refine n_iadd hC dX1_isLocalAsTold_12 ?_
  refine n_aload_n hC 2 rfl dX1_isLocalAsTold_13 ?_
  refine n_get hC clX2 h1 0 (.int (M.1 a1 0)) (by decide) rfl fl_X1_94 rfl dX1_isLocalAsTold_14 ?_
  refine n_bipush hC (6 : Int32) (by decide) dX1_isLocalAsTold_17 ?_
  refine n_iadd hC dX1_isLocalAsTold_19 ?_
  refine n_bipush hC (10 : Int32) (by decide) dX1_isLocalAsTold_20 ?_
  refine n_callVi (As := [.int (v1 + (4 : Int32)), .int ((M.1 a1 0) + (6 : Int32)), .int (10 : Int32)]) (rest := []) (kf_X1_0 h0) rfl (by decide) hC (c_X3_isSame l M (rf a0 0) (v1 + (4 : Int32)) ((M.1 a1 0) + (6 : Int32)) (10 : Int32) (kf_X1_0 h0)) my_X3_isSame ml_X1_127 rfl rfl rfl (Nat.le_of_ble_eq_true rfl) ⟨by decide, by decide⟩ dX1_isLocalAsTold_22 (fun r2 M3 => ?_)
  refine n_if_eq hC 50 dX1_isLocalAsTold_25 (by decide) ?_ ?_
  · refine n_iconst hC (0 : Int32) (by decide) dX1_isLocalAsTold_50 ?_
    exact n_zret hC dX1_isLocalAsTold_51
  refine n_aload_n hC 1 rfl dX1_isLocalAsTold_28 ?_
  refine n_get hC clX1 h0 0 (.ref (b + (rf a0 0))) (by decide) rfl fl_X1_39 rfl dX1_isLocalAsTold_29 ?_
  refine n_iload_n hC 0 rfl dX1_isLocalAsTold_32 ?_
  refine n_bipush hC (26 : Int32) (by decide) dX1_isLocalAsTold_33 ?_
  refine n_iadd hC dX1_isLocalAsTold_35 ?_
  refine n_aload_n hC 2 rfl dX1_isLocalAsTold_36 ?_
  refine n_get hC clX2 h1 0 (.int (M3.1 a1 0)) (by decide) rfl fl_X1_94 rfl dX1_isLocalAsTold_37 ?_
  refine n_bipush hC (28 : Int32) (by decide) dX1_isLocalAsTold_40 ?_
  refine n_iadd hC dX1_isLocalAsTold_42 ?_
  refine n_iconst hC (4 : Int32) (by decide) dX1_isLocalAsTold_43 ?_
  refine n_callVi (As := [.int (v1 + (26 : Int32)), .int ((M3.1 a1 0) + (28 : Int32)), .int (4 : Int32)]) (rest := []) (kf_X1_0 h0) rfl (by decide) hC (c_X3_isSame l M3 (rf a0 0) (v1 + (26 : Int32)) ((M3.1 a1 0) + (28 : Int32)) (4 : Int32) (kf_X1_0 h0)) my_X3_isSame ml_X1_127 rfl rfl rfl (Nat.le_of_ble_eq_true rfl) ⟨by decide, by decide⟩ dX1_isLocalAsTold_44 (fun r4 M5 => ?_)
  refine n_if_ne hC 52 dX1_isLocalAsTold_47 (by decide) ?_ ?_
  · refine n_aload_n hC 1 rfl dX1_isLocalAsTold_52 ?_
    refine n_get hC clX1 h0 0 (.ref (b + (rf a0 0))) (by decide) rfl fl_X1_39 rfl dX1_isLocalAsTold_53 ?_
    refine n_iload_n hC 0 rfl dX1_isLocalAsTold_56 ?_
    refine n_bipush hC (30 : Int32) (by decide) dX1_isLocalAsTold_57 ?_
    refine n_iadd hC dX1_isLocalAsTold_59 ?_
    refine n_aload_n hC 2 rfl dX1_isLocalAsTold_60 ?_
    refine n_callVi (As := []) (rest := [.int (v1 + (30 : Int32)), .ref (b + (rf a0 0))]) h1 rfl (by decide) hC (c_X2_namePlace l M5 a1 h1) my_X2_namePlace ml_X1_131 rfl rfl rfl (Nat.le_of_ble_eq_true rfl) ⟨by decide, by decide⟩ dX1_isLocalAsTold_61 (fun r6 M7 => ?_)
    refine n_aload_n hC 2 rfl dX1_isLocalAsTold_64 ?_
    refine n_get hC clX2 h1 6 (.int (M7.1 a1 6)) (by decide) rfl fl_X1_134 rfl dX1_isLocalAsTold_65 ?_
    refine n_aload_n hC 2 rfl dX1_isLocalAsTold_68 ?_
    refine n_get hC clX2 h1 7 (.int (M7.1 a1 7)) (by decide) rfl fl_X1_137 rfl dX1_isLocalAsTold_69 ?_
    refine n_iadd hC dX1_isLocalAsTold_72 ?_
    refine n_callVi (As := [.int (v1 + (30 : Int32)), .int r6, .int ((M7.1 a1 6) + (M7.1 a1 7))]) (rest := []) (kf_X1_0 h0) rfl (by decide) hC (c_X3_isSame l M7 (rf a0 0) (v1 + (30 : Int32)) r6 ((M7.1 a1 6) + (M7.1 a1 7)) (kf_X1_0 h0)) my_X3_isSame ml_X1_127 rfl rfl rfl (Nat.le_of_ble_eq_true rfl) ⟨by decide, by decide⟩ dX1_isLocalAsTold_73 (fun r8 M9 => ?_)
    refine n_if_ne hC 81 dX1_isLocalAsTold_76 (by decide) ?_ ?_
    · refine n_aload_n hC 2 rfl dX1_isLocalAsTold_81 ?_
      refine n_callVi (As := []) (rest := []) h1 rfl (by decide) hC (c_X2_form l M9 a1 h1) my_X2_form ml_X1_140 rfl rfl rfl (Nat.le_of_ble_eq_true rfl) ⟨by decide, by decide⟩ dX1_isLocalAsTold_82 (fun r10 M11 => ?_)
      refine n_iconst hC (1 : Int32) (by decide) dX1_isLocalAsTold_85 ?_
      refine n_icmp_ne hC 127 dX1_isLocalAsTold_86 (by decide) ?_ ?_
      · refine n_aload_n hC 1 rfl dX1_isLocalAsTold_127 ?_
        refine n_get hC clX1 h0 0 (.ref (b + (rf a0 0))) (by decide) rfl fl_X1_39 rfl dX1_isLocalAsTold_128 ?_
        refine n_iload_n hC 0 rfl dX1_isLocalAsTold_131 ?_
        refine n_bipush hC (14 : Int32) (by decide) dX1_isLocalAsTold_132 ?_
        refine n_iadd hC dX1_isLocalAsTold_134 ?_
        refine n_aload_n hC 2 rfl dX1_isLocalAsTold_135 ?_
        refine n_get hC clX2 h1 0 (.int (M11.1 a1 0)) (by decide) rfl fl_X1_94 rfl dX1_isLocalAsTold_136 ?_
        refine n_bipush hC (16 : Int32) (by decide) dX1_isLocalAsTold_139 ?_
        refine n_iadd hC dX1_isLocalAsTold_141 ?_
        refine n_bipush hC (12 : Int32) (by decide) dX1_isLocalAsTold_142 ?_
        refine n_callVi (As := [.int (v1 + (14 : Int32)), .int ((M11.1 a1 0) + (16 : Int32)), .int (12 : Int32)]) (rest := []) (kf_X1_0 h0) rfl (by decide) hC (c_X3_isSame l M11 (rf a0 0) (v1 + (14 : Int32)) ((M11.1 a1 0) + (16 : Int32)) (12 : Int32) (kf_X1_0 h0)) my_X3_isSame ml_X1_127 rfl rfl rfl (Nat.le_of_ble_eq_true rfl) ⟨by decide, by decide⟩ dX1_isLocalAsTold_144 (fun r12 M13 => ?_)
        exact n_zret hC dX1_isLocalAsTold_147
      refine n_aload_n hC 1 rfl dX1_isLocalAsTold_89 ?_
      refine n_get hC clX1 h0 0 (.ref (b + (rf a0 0))) (by decide) rfl fl_X1_39 rfl dX1_isLocalAsTold_90 ?_
      refine n_iload_n hC 0 rfl dX1_isLocalAsTold_93 ?_
      refine n_bipush hC (14 : Int32) (by decide) dX1_isLocalAsTold_94 ?_
      refine n_iadd hC dX1_isLocalAsTold_96 ?_
      refine n_callVl (As := [.int (v1 + (14 : Int32))]) (rest := []) (kf_X1_0 h0) rfl (by decide) hC (c_X3_number4 l M11 (rf a0 0) (v1 + (14 : Int32)) (kf_X1_0 h0)) my_X3_number4 ml_X1_63 rfl rfl rfl (Nat.le_of_ble_eq_true rfl) ⟨by decide, by decide⟩ dX1_isLocalAsTold_97 (fun r14 M15 => ?_)
      refine n_lconst hC (0 : Int64) (by decide) dX1_isLocalAsTold_100 ?_
      refine n_lcmp hC dX1_isLocalAsTold_101 ?_
      refine n_if_ne hC 125 dX1_isLocalAsTold_102 (by decide) ?_ ?_
      · refine n_iconst hC (0 : Int32) (by decide) dX1_isLocalAsTold_125 ?_
        exact n_zret hC dX1_isLocalAsTold_126
      refine n_aload_n hC 1 rfl dX1_isLocalAsTold_105 ?_
      refine n_get hC clX1 h0 0 (.ref (b + (rf a0 0))) (by decide) rfl fl_X1_39 rfl dX1_isLocalAsTold_106 ?_
      refine n_iload_n hC 0 rfl dX1_isLocalAsTold_109 ?_
      refine n_bipush hC (18 : Int32) (by decide) dX1_isLocalAsTold_110 ?_
      refine n_iadd hC dX1_isLocalAsTold_112 ?_
      refine n_callVl (As := [.int (v1 + (18 : Int32))]) (rest := []) (kf_X1_0 h0) rfl (by decide) hC (c_X3_number8 l M15 (rf a0 0) (v1 + (18 : Int32)) (kf_X1_0 h0)) my_X3_number8 ml_X1_143 rfl rfl rfl (Nat.le_of_ble_eq_true rfl) ⟨by decide, by decide⟩ dX1_isLocalAsTold_113 (fun r16 M17 => ?_)
      refine n_lconst hC (0 : Int64) (by decide) dX1_isLocalAsTold_116 ?_
      refine n_lcmp hC dX1_isLocalAsTold_117 ?_
      refine n_if_ne hC 125 dX1_isLocalAsTold_118 (by decide) ?_ ?_
      · refine n_iconst hC (0 : Int32) (by decide) dX1_isLocalAsTold_125 ?_
        exact n_zret hC dX1_isLocalAsTold_126
      refine n_iconst hC (1 : Int32) (by decide) dX1_isLocalAsTold_121 ?_
      refine n_goto hC (tgt := 126) (by decide) dX1_isLocalAsTold_122 ?_
      exact n_zret hC dX1_isLocalAsTold_126
    refine n_iconst hC (0 : Int32) (by decide) dX1_isLocalAsTold_79 ?_
    exact n_zret hC dX1_isLocalAsTold_80
  refine n_iconst hC (0 : Int32) (by decide) dX1_isLocalAsTold_50 ?_
  exact n_zret hC dX1_isLocalAsTold_51
def j_X1_sharesBytes_52 (kx : Int32 → Me → Option (Int32 × Me)) (kb : Int32 × Me → Option (Int32 × Me)) (a0 : Nat) (x1 : Int32) (a2 : Nat) (x3 : Int32) (M : Me) : Option (Int32 × Me) := bndV (x3 + (1 : Int32)) (fun v5 => kb (v5, M))
set_option maxHeartbeats 4000000 in
set_option maxRecDepth 100000 in
theorem b_X1_sharesBytes_52 {p : Program} {l : Launch} {e : Env} {s : State} {m : MethodId} {args : Array Value} {below : List Frame} {meth : Method} {c : Code} {D : va_G} {T : Nat → ClassId} {b : Nat} (hC : CX p s m args meth c cX1_sharesBytes 4 RX1 (some .boolean) D T) (a0 : Nat) (x1 : Int32) (a2 : Nat) (x3 : Int32) (h0 : kd a0 = 1) (h2 : kd a2 = 2) (kx : Int32 → Me → Option (Int32 × Me)) (hkx : ∀ (x3 : Int32) (M : Me), GN p l e (k2_rm 0 0) s m args below meth c D T b 4 eI 58 [] [] M (kx x3 M)) (kb : Int32 × Me → Option (Int32 × Me)) (hkb : ∀ z : Int32 × Me, GN p l e (k2_rm 0 0) s m args below meth c D T b 4 eI 9 [(0, .ref (b + a0)), (1, .int x1), (2, .ref (b + a2)), (3, .int z.1)] [] z.2 (kb z)) (M : Me) : GN p l e (k2_rm 0 0) s m args below meth c D T b 4 eI 52 [(0, .ref (b + a0)), (1, .int x1), (2, .ref (b + a2)), (3, .int x3)] [] M (j_X1_sharesBytes_52 kx kb a0 x1 a2 x3 M) := by
  unfold j_X1_sharesBytes_52
  refine n_iincB hC (1 : Int32) (by decide) (fun v5 => [(3, .int v5), (0, .ref (b + a0)), (1, .int x1), (2, .ref (b + a2))]) 3 rfl (by decide) (fun _ => rfl) dX1_sharesBytes_52 (fun v5 => ?_)
  refine n_goto hC (tgt := 9) (by decide) dX1_sharesBytes_55 ?_
  exact GN.sub [1, 2, 3, 0] rfl (hkb (v5, M))
def g_X1_sharesBytes_9 (kx : Int32 → Me → Option (Int32 × Me)) (kb : Int32 × Me → Option (Int32 × Me)) (a0 : Nat) (x1 : Int32) (a2 : Nat) (x3 : Int32) (M : Me) : Option (Int32 × Me) := if x1 ≤ x3 then kx x3 M else chk x3 (ln (rf a0 1)) (if (0 : Int32) ≤ (lg_cmp (M.2 a2 17) (((M.1 (rf (rf a0 1) x3.toNatClampNeg) 18)).toInt64)) then j_X1_sharesBytes_52 kx kb a0 x1 a2 x3 M else chk x3 (ln (rf a0 1)) (if (0 : Int32) ≤ (lg_cmp (M.2 (rf (rf a0 1) x3.toNatClampNeg) 17) (((M.1 a2 18)).toInt64)) then j_X1_sharesBytes_52 kx kb a0 x1 a2 x3 M else chZ (1 : Int32) (some ((1 : Int32), M))))
set_option maxHeartbeats 4000000 in
set_option maxRecDepth 100000 in
theorem b_X1_sharesBytes_9_g {p : Program} {l : Launch} {e : Env} {s : State} {m : MethodId} {args : Array Value} {below : List Frame} {meth : Method} {c : Code} {D : va_G} {T : Nat → ClassId} {b : Nat} (hC : CX p s m args meth c cX1_sharesBytes 4 RX1 (some .boolean) D T) (a0 : Nat) (x1 : Int32) (a2 : Nat) (x3 : Int32) (h0 : kd a0 = 1) (h2 : kd a2 = 2) (kx : Int32 → Me → Option (Int32 × Me)) (hkx : ∀ (x3 : Int32) (M : Me), GN p l e (k2_rm 0 0) s m args below meth c D T b 4 eI 58 [] [] M (kx x3 M)) (kb : Int32 × Me → Option (Int32 × Me)) (hkb : ∀ z : Int32 × Me, GN p l e (k2_rm 0 0) s m args below meth c D T b 4 eI 9 [(0, .ref (b + a0)), (1, .int x1), (2, .ref (b + a2)), (3, .int z.1)] [] z.2 (kb z)) (M : Me) : GN p l e (k2_rm 0 0) s m args below meth c D T b 4 eI 9 [(0, .ref (b + a0)), (1, .int x1), (2, .ref (b + a2)), (3, .int x3)] [] M (g_X1_sharesBytes_9 kx kb a0 x1 a2 x3 M) := by
  unfold g_X1_sharesBytes_9
  refine n_iload_n hC 3 rfl dX1_sharesBytes_9 ?_
  refine n_iload_n hC 1 rfl dX1_sharesBytes_10 ?_
  refine n_icmp_ge hC 58 dX1_sharesBytes_11 (by decide) ?_ ?_
  · exact GN.sub [] rfl (hkx x3 M)
  refine n_aload_n hC 2 rfl dX1_sharesBytes_14 ?_
  refine n_get hC clX2 h2 17 (.long (M.2 a2 17)) (by decide) rfl fl_X1_104 rfl dX1_sharesBytes_15 ?_
  refine n_aload_n hC 0 rfl dX1_sharesBytes_18 ?_
  refine n_get hC clX1 h0 1 (.ref (b + (rf a0 1))) (by decide) rfl fl_X1_11 rfl dX1_sharesBytes_19 ?_
  refine n_iload_n hC 3 rfl dX1_sharesBytes_22 ?_
  refine n_aaldR hC (kf_X1_1 h0) dX1_sharesBytes_23 (fun g4 => ?_)
  refine n_get hC clX2 (ke_10 (kf_X1_1 h0) g4) 18 (.int (M.1 (rf (rf a0 1) x3.toNatClampNeg) 18)) (by decide) rfl fl_X1_149 rfl dX1_sharesBytes_24 ?_
  refine n_i2l hC dX1_sharesBytes_27 ?_
  refine n_lcmp hC dX1_sharesBytes_28 ?_
  refine n_if_ge hC 52 dX1_sharesBytes_29 (by decide) ?_ ?_
  · exact GN.sub [0, 1, 2, 3] rfl (b_X1_sharesBytes_52 hC a0 x1 a2 x3 h0 h2 kx hkx kb hkb M)
  refine n_aload_n hC 0 rfl dX1_sharesBytes_32 ?_
  refine n_get hC clX1 h0 1 (.ref (b + (rf a0 1))) (by decide) rfl fl_X1_11 rfl dX1_sharesBytes_33 ?_
  refine n_iload_n hC 3 rfl dX1_sharesBytes_36 ?_
  refine n_aaldR hC (kf_X1_1 h0) dX1_sharesBytes_37 (fun g6 => ?_)
  refine n_get hC clX2 (ke_10 (kf_X1_1 h0) g6) 17 (.long (M.2 (rf (rf a0 1) x3.toNatClampNeg) 17)) (by decide) rfl fl_X1_104 rfl dX1_sharesBytes_38 ?_
  refine n_aload_n hC 2 rfl dX1_sharesBytes_41 ?_
  refine n_get hC clX2 h2 18 (.int (M.1 a2 18)) (by decide) rfl fl_X1_149 rfl dX1_sharesBytes_42 ?_
  refine n_i2l hC dX1_sharesBytes_45 ?_
  refine n_lcmp hC dX1_sharesBytes_46 ?_
  refine n_if_ge hC 52 dX1_sharesBytes_47 (by decide) ?_ ?_
  · exact GN.sub [0, 1, 2, 3] rfl (b_X1_sharesBytes_52 hC a0 x1 a2 x3 h0 h2 kx hkx kb hkb M)
  refine n_iconst hC (1 : Int32) (by decide) dX1_sharesBytes_50 ?_
  exact n_zret hC dX1_sharesBytes_51
def l_X1_sharesBytes_9 (kx : Int32 → Me → Option (Int32 × Me)) (a0 : Nat) (x1 : Int32) (a2 : Nat) (x3 : Int32) (M : Me) : Option (Int32 × Me) := lp (fun kb z => g_X1_sharesBytes_9 kx kb a0 x1 a2 z.1 z.2) FU (x3, M)
set_option maxHeartbeats 4000000 in
set_option maxRecDepth 100000 in
theorem b_X1_sharesBytes_9 {p : Program} {l : Launch} {e : Env} {s : State} {m : MethodId} {args : Array Value} {below : List Frame} {meth : Method} {c : Code} {D : va_G} {T : Nat → ClassId} {b : Nat} (hC : CX p s m args meth c cX1_sharesBytes 4 RX1 (some .boolean) D T) (a0 : Nat) (x1 : Int32) (a2 : Nat) (x3 : Int32) (h0 : kd a0 = 1) (h2 : kd a2 = 2) (kx : Int32 → Me → Option (Int32 × Me)) (hkx : ∀ (x3 : Int32) (M : Me), GN p l e (k2_rm 0 0) s m args below meth c D T b 4 eI 58 [] [] M (kx x3 M)) (M : Me) : GN p l e (k2_rm 0 0) s m args below meth c D T b 4 eI 9 [(0, .ref (b + a0)), (1, .int x1), (2, .ref (b + a2)), (3, .int x3)] [] M (l_X1_sharesBytes_9 kx a0 x1 a2 x3 M) := by
  exact n_loop (σ := Int32 × Me) (fun z => [(0, .ref (b + a0)), (1, .int x1), (2, .ref (b + a2)), (3, .int z.1)]) (fun z => z.2) (fun kb hkb z => b_X1_sharesBytes_9_g hC a0 x1 a2 z.1 h0 h2 kx hkx kb hkb z.2) FU (x3, M)
def f_X1_sharesBytes (M : Me) (a0 : Nat) (x1 : Int32) : Option (Int32 × Me) := chk x1 (ln (rf a0 1)) (bndV (rf (rf a0 1) x1.toNatClampNeg) (fun v2 => l_X1_sharesBytes_9 (fun v7 M8 => chZ (0 : Int32) (some ((0 : Int32), M8))) a0 x1 v2 (0 : Int32) M))
set_option maxHeartbeats 4000000 in
set_option maxRecDepth 100000 in
theorem c_X1_sharesBytes (l : Launch) (M : Me) (a0 : Nat) (x1 : Int32) (h0 : kd a0 = 1) : CN l yX1_sharesBytes cX1_sharesBytes 4 (some .boolean) (k2_rm 0 0) eI (fun b => [.ref (b + a0), .int x1]) M (f_X1_sharesBytes M a0 x1) := by
  refine CN.of RX1 (fun b => [(0, .ref (b + a0)), (1, .int x1)]) (by decide) rfl (fun b => Nat.le_of_ble_eq_true rfl) (fun b => rfl) ?_
  intro p e s m args below meth c D T b hC
  unfold f_X1_sharesBytes
  refine n_aload_n hC 0 rfl dX1_sharesBytes_0 ?_
  refine n_get hC clX1 h0 1 (.ref (b + (rf a0 1))) (by decide) rfl fl_X1_11 rfl dX1_sharesBytes_1 ?_
  refine n_iload_n hC 1 rfl dX1_sharesBytes_4 ?_
  refine n_aaldR hC (kf_X1_1 h0) dX1_sharesBytes_5 (fun g1 => ?_)
  refine n_astB_n hC rfl (ke_10 (kf_X1_1 h0) g1) (fun v2 => [(2, .ref (b + v2)), (0, .ref (b + a0)), (1, .int x1)]) (by decide) (fun _ => rfl) dX1_sharesBytes_6 (fun v2 k3 => ?_)
  refine n_iconst hC (0 : Int32) (by decide) dX1_sharesBytes_7 ?_
  refine n_istore_n hC rfl [(3, .int (0 : Int32)), (2, .ref (b + v2)), (0, .ref (b + a0)), (1, .int x1)] (by decide) rfl dX1_sharesBytes_8 ?_
  refine GN.sub [2, 3, 1, 0] rfl (b_X1_sharesBytes_9 hC a0 x1 v2 (0 : Int32) h0 k3 _ (fun v7 M8 => ?_) M)
  refine n_iconst hC (0 : Int32) (by decide) dX1_sharesBytes_58 ?_
  exact n_zret hC dX1_sharesBytes_59
def f_X1_isGoodEntry (M : Me) (a0 : Nat) (x1 : Int32) : Option (Int32 × Me) := chk x1 (ln (rf a0 1)) (bndV (rf (rf a0 1) x1.toNatClampNeg) (fun v2 => cal (f_X2_hasKnownForm M v2 (rf a0 0)) (fun r4 M5 => if r4 = (0 : Int32) then cal (f_X1_fail M5 a0 (4 : Int32) (M5.1 v2 0)) (fun r32 M33 => chZ r32 (some (r32, M33))) else cal (f_X2_hasKnownSizes M5 v2) (fun r6 M7 => if r6 = (0 : Int32) then cal (f_X1_fail M7 a0 (5 : Int32) (M7.1 v2 0)) (fun r30 M31 => chZ r30 (some (r30, M31))) else cal (f_X1_hasLocal M7 a0 v2) (fun r8 M9 => if r8 = (0 : Int32) then cal (f_X1_fail M9 a0 (6 : Int32) ((M9.2 v2 17).toInt32)) (fun r28 M29 => chZ r28 (some (r28, M29))) else cal (f_X1_isLocalAsTold M9 a0 v2) (fun r10 M11 => if r10 = (0 : Int32) then cal (f_X1_fail M11 a0 (7 : Int32) ((M11.2 v2 17).toInt32)) (fun r26 M27 => chZ r26 (some (r26, M27))) else cal (f_X1_hasDataAsTold M11 a0 v2) (fun r12 M13 => if r12 = (0 : Int32) then cal (f_X2_dataPlace M13 v2) (fun r22 M23 => cal (f_X1_fail M23 a0 (8 : Int32) r22) (fun r24 M25 => chZ r24 (some (r24, M25)))) else cal (f_X1_sharesBytes M13 a0 x1) (fun r14 M15 => if r14 = (0 : Int32) then cal (f_X2_isSafe M15 v2 (rf a0 0)) (fun r16 M17 => if r16 = (0 : Int32) then cal (f_X1_fail M17 a0 (10 : Int32) (M17.1 v2 0)) (fun r18 M19 => if r18 = (0 : Int32) then chZ (0 : Int32) (some ((0 : Int32), M19)) else chZ (1 : Int32) (some ((1 : Int32), M19))) else chZ (1 : Int32) (some ((1 : Int32), M17))) else cal (f_X1_fail M15 a0 (9 : Int32) ((M15.2 v2 17).toInt32)) (fun r20 M21 => chZ r20 (some (r20, M21)))))))))))
set_option maxHeartbeats 4000000 in
set_option maxRecDepth 100000 in
theorem c_X1_isGoodEntry (l : Launch) (M : Me) (a0 : Nat) (x1 : Int32) (h0 : kd a0 = 1) : CN l yX1_isGoodEntry cX1_isGoodEntry 3 (some .boolean) (k2_rm 5 112) eI (fun b => [.ref (b + a0), .int x1]) M (f_X1_isGoodEntry M a0 x1) := by
  refine CN.of RX1 (fun b => [(0, .ref (b + a0)), (1, .int x1)]) (by decide) rfl (fun b => Nat.le_of_ble_eq_true rfl) (fun b => rfl) ?_
  intro p e s m args below meth c D T b hC
  unfold f_X1_isGoodEntry
  refine n_aload_n hC 0 rfl dX1_isGoodEntry_0 ?_
  refine n_get hC clX1 h0 1 (.ref (b + (rf a0 1))) (by decide) rfl fl_X1_11 rfl dX1_isGoodEntry_1 ?_
  refine n_iload_n hC 1 rfl dX1_isGoodEntry_4 ?_
  refine n_aaldR hC (kf_X1_1 h0) dX1_isGoodEntry_5 (fun g1 => ?_)
  refine n_astB_n hC rfl (ke_10 (kf_X1_1 h0) g1) (fun v2 => [(2, .ref (b + v2)), (0, .ref (b + a0)), (1, .int x1)]) (by decide) (fun _ => rfl) dX1_isGoodEntry_6 (fun v2 k3 => ?_)
  refine n_aload_n hC 0 rfl dX1_isGoodEntry_7 ?_
  refine n_aload_n hC 1 rfl dX1_isGoodEntry_8 ?_
  refine n_get hC clX1 h0 0 (.ref (b + (rf a0 0))) (by decide) rfl fl_X1_39 rfl dX1_isGoodEntry_9 ?_
  refine n_callVi (As := [.ref (b + (rf a0 0))]) (rest := []) k3 rfl (by decide) hC (c_X2_hasKnownForm l M v2 (rf a0 0) k3 (kf_X1_0 h0)) my_X2_hasKnownForm ml_X1_90 rfl rfl rfl (Nat.le_of_ble_eq_true rfl) ⟨by decide, by decide⟩ dX1_isGoodEntry_12 (fun r4 M5 => ?_)
  refine n_if_ne hC 28 dX1_isGoodEntry_15 (by decide) ?_ ?_
  · refine n_aload_n hC 0 rfl dX1_isGoodEntry_28 ?_
    refine n_callVi (As := []) (rest := []) k3 rfl (by decide) hC (c_X2_hasKnownSizes l M5 v2 k3) my_X2_hasKnownSizes ml_X1_97 rfl rfl rfl (Nat.le_of_ble_eq_true rfl) ⟨by decide, by decide⟩ dX1_isGoodEntry_29 (fun r6 M7 => ?_)
    refine n_if_ne hC 45 dX1_isGoodEntry_32 (by decide) ?_ ?_
    · refine n_aload_n hC 1 rfl dX1_isGoodEntry_45 ?_
      refine n_aload_n hC 0 rfl dX1_isGoodEntry_46 ?_
      refine n_callVi (As := [.ref (b + v2)]) (rest := []) h0 rfl (by decide) hC (c_X1_hasLocal l M7 a0 v2 h0 k3) my_X1_hasLocal ml_X1_100 rfl rfl rfl (Nat.le_of_ble_eq_true rfl) ⟨by decide, by decide⟩ dX1_isGoodEntry_47 (fun r8 M9 => ?_)
      refine n_if_ne hC 65 dX1_isGoodEntry_50 (by decide) ?_ ?_
      · refine n_aload_n hC 1 rfl dX1_isGoodEntry_65 ?_
        refine n_aload_n hC 0 rfl dX1_isGoodEntry_66 ?_
        refine n_callVi (As := [.ref (b + v2)]) (rest := []) h0 rfl (by decide) hC (c_X1_isLocalAsTold l M9 a0 v2 h0 k3) my_X1_isLocalAsTold ml_X1_108 rfl rfl rfl (Nat.le_of_ble_eq_true rfl) ⟨by decide, by decide⟩ dX1_isGoodEntry_67 (fun r10 M11 => ?_)
        refine n_if_ne hC 85 dX1_isGoodEntry_70 (by decide) ?_ ?_
        · refine n_aload_n hC 1 rfl dX1_isGoodEntry_85 ?_
          refine n_aload_n hC 0 rfl dX1_isGoodEntry_86 ?_
          refine n_callVi (As := [.ref (b + v2)]) (rest := []) h0 rfl (by decide) hC (c_X1_hasDataAsTold l M11 a0 v2 h0 k3) my_X1_hasDataAsTold ml_X1_111 rfl rfl rfl (Nat.le_of_ble_eq_true rfl) ⟨by decide, by decide⟩ dX1_isGoodEntry_87 (fun r12 M13 => ?_)
          refine n_if_ne hC 104 dX1_isGoodEntry_90 (by decide) ?_ ?_
          · refine n_aload_n hC 1 rfl dX1_isGoodEntry_104 ?_
            refine n_iload_n hC 2 rfl dX1_isGoodEntry_105 ?_
            refine n_callVi (As := [.int x1]) (rest := []) h0 rfl (by decide) hC (c_X1_sharesBytes l M13 a0 x1 h0) my_X1_sharesBytes ml_X1_117 rfl rfl rfl (Nat.le_of_ble_eq_true rfl) ⟨by decide, by decide⟩ dX1_isGoodEntry_106 (fun r14 M15 => ?_)
            refine n_if_eq hC 124 dX1_isGoodEntry_109 (by decide) ?_ ?_
            · refine n_aload_n hC 0 rfl dX1_isGoodEntry_124 ?_
              refine n_aload_n hC 1 rfl dX1_isGoodEntry_125 ?_
              refine n_get hC clX1 h0 0 (.ref (b + (rf a0 0))) (by decide) rfl fl_X1_39 rfl dX1_isGoodEntry_126 ?_
              refine n_callVi (As := [.ref (b + (rf a0 0))]) (rest := []) k3 rfl (by decide) hC (c_X2_isSafe l M15 v2 (rf a0 0) k3 (kf_X1_0 h0)) my_X2_isSafe ml_X1_120 rfl rfl rfl (Nat.le_of_ble_eq_true rfl) ⟨by decide, by decide⟩ dX1_isGoodEntry_129 (fun r16 M17 => ?_)
              refine n_if_ne hC 148 dX1_isGoodEntry_132 (by decide) ?_ ?_
              · refine n_iconst hC (1 : Int32) (by decide) dX1_isGoodEntry_148 ?_
                refine n_goto hC (tgt := 153) (by decide) dX1_isGoodEntry_149 ?_
                exact n_zret hC dX1_isGoodEntry_153
              refine n_aload_n hC 1 rfl dX1_isGoodEntry_135 ?_
              refine n_bipush hC (10 : Int32) (by decide) dX1_isGoodEntry_136 ?_
              refine n_aload_n hC 0 rfl dX1_isGoodEntry_138 ?_
              refine n_get hC clX2 k3 0 (.int (M17.1 v2 0)) (by decide) rfl fl_X1_94 rfl dX1_isGoodEntry_139 ?_
              refine n_callVi (As := [.int (10 : Int32), .int (M17.1 v2 0)]) (rest := []) h0 rfl (by decide) hC (c_X1_fail l M17 a0 (10 : Int32) (M17.1 v2 0) h0) my_X1_fail ml_X1_73 rfl rfl rfl (Nat.le_of_ble_eq_true rfl) ⟨by decide, by decide⟩ dX1_isGoodEntry_142 (fun r18 M19 => ?_)
              refine n_if_eq hC 152 dX1_isGoodEntry_145 (by decide) ?_ ?_
              · refine n_iconst hC (0 : Int32) (by decide) dX1_isGoodEntry_152 ?_
                exact n_zret hC dX1_isGoodEntry_153
              refine n_iconst hC (1 : Int32) (by decide) dX1_isGoodEntry_148 ?_
              refine n_goto hC (tgt := 153) (by decide) dX1_isGoodEntry_149 ?_
              exact n_zret hC dX1_isGoodEntry_153
            refine n_aload_n hC 1 rfl dX1_isGoodEntry_112 ?_
            refine n_bipush hC (9 : Int32) (by decide) dX1_isGoodEntry_113 ?_
            refine n_aload_n hC 0 rfl dX1_isGoodEntry_115 ?_
            refine n_get hC clX2 k3 17 (.long (M15.2 v2 17)) (by decide) rfl fl_X1_104 rfl dX1_isGoodEntry_116 ?_
            refine n_l2i hC dX1_isGoodEntry_119 ?_
            refine n_callVi (As := [.int (9 : Int32), .int (M15.2 v2 17).toInt32]) (rest := []) h0 rfl (by decide) hC (c_X1_fail l M15 a0 (9 : Int32) ((M15.2 v2 17).toInt32) h0) my_X1_fail ml_X1_73 rfl rfl rfl (Nat.le_of_ble_eq_true rfl) ⟨by decide, by decide⟩ dX1_isGoodEntry_120 (fun r20 M21 => ?_)
            exact n_zret hC dX1_isGoodEntry_123
          refine n_aload_n hC 1 rfl dX1_isGoodEntry_93 ?_
          refine n_bipush hC (8 : Int32) (by decide) dX1_isGoodEntry_94 ?_
          refine n_aload_n hC 0 rfl dX1_isGoodEntry_96 ?_
          refine n_callVi (As := []) (rest := [.int (8 : Int32), .ref (b + a0)]) k3 rfl (by decide) hC (c_X2_dataPlace l M13 v2 k3) my_X2_dataPlace ml_X1_114 rfl rfl rfl (Nat.le_of_ble_eq_true rfl) ⟨by decide, by decide⟩ dX1_isGoodEntry_97 (fun r22 M23 => ?_)
          refine n_callVi (As := [.int (8 : Int32), .int r22]) (rest := []) h0 rfl (by decide) hC (c_X1_fail l M23 a0 (8 : Int32) r22 h0) my_X1_fail ml_X1_73 rfl rfl rfl (Nat.le_of_ble_eq_true rfl) ⟨by decide, by decide⟩ dX1_isGoodEntry_100 (fun r24 M25 => ?_)
          exact n_zret hC dX1_isGoodEntry_103
        refine n_aload_n hC 1 rfl dX1_isGoodEntry_73 ?_
        refine n_bipush hC (7 : Int32) (by decide) dX1_isGoodEntry_74 ?_
        refine n_aload_n hC 0 rfl dX1_isGoodEntry_76 ?_
        refine n_get hC clX2 k3 17 (.long (M11.2 v2 17)) (by decide) rfl fl_X1_104 rfl dX1_isGoodEntry_77 ?_
        refine n_l2i hC dX1_isGoodEntry_80 ?_
        refine n_callVi (As := [.int (7 : Int32), .int (M11.2 v2 17).toInt32]) (rest := []) h0 rfl (by decide) hC (c_X1_fail l M11 a0 (7 : Int32) ((M11.2 v2 17).toInt32) h0) my_X1_fail ml_X1_73 rfl rfl rfl (Nat.le_of_ble_eq_true rfl) ⟨by decide, by decide⟩ dX1_isGoodEntry_81 (fun r26 M27 => ?_)
        exact n_zret hC dX1_isGoodEntry_84
      refine n_aload_n hC 1 rfl dX1_isGoodEntry_53 ?_
      refine n_bipush hC (6 : Int32) (by decide) dX1_isGoodEntry_54 ?_
      refine n_aload_n hC 0 rfl dX1_isGoodEntry_56 ?_
      refine n_get hC clX2 k3 17 (.long (M9.2 v2 17)) (by decide) rfl fl_X1_104 rfl dX1_isGoodEntry_57 ?_
      refine n_l2i hC dX1_isGoodEntry_60 ?_
      refine n_callVi (As := [.int (6 : Int32), .int (M9.2 v2 17).toInt32]) (rest := []) h0 rfl (by decide) hC (c_X1_fail l M9 a0 (6 : Int32) ((M9.2 v2 17).toInt32) h0) my_X1_fail ml_X1_73 rfl rfl rfl (Nat.le_of_ble_eq_true rfl) ⟨by decide, by decide⟩ dX1_isGoodEntry_61 (fun r28 M29 => ?_)
      exact n_zret hC dX1_isGoodEntry_64
    refine n_aload_n hC 1 rfl dX1_isGoodEntry_35 ?_
    refine n_iconst hC (5 : Int32) (by decide) dX1_isGoodEntry_36 ?_
    refine n_aload_n hC 0 rfl dX1_isGoodEntry_37 ?_
    refine n_get hC clX2 k3 0 (.int (M7.1 v2 0)) (by decide) rfl fl_X1_94 rfl dX1_isGoodEntry_38 ?_
    refine n_callVi (As := [.int (5 : Int32), .int (M7.1 v2 0)]) (rest := []) h0 rfl (by decide) hC (c_X1_fail l M7 a0 (5 : Int32) (M7.1 v2 0) h0) my_X1_fail ml_X1_73 rfl rfl rfl (Nat.le_of_ble_eq_true rfl) ⟨by decide, by decide⟩ dX1_isGoodEntry_41 (fun r30 M31 => ?_)
    exact n_zret hC dX1_isGoodEntry_44
  refine n_aload_n hC 1 rfl dX1_isGoodEntry_18 ?_
  refine n_iconst hC (4 : Int32) (by decide) dX1_isGoodEntry_19 ?_
  refine n_aload_n hC 0 rfl dX1_isGoodEntry_20 ?_
  refine n_get hC clX2 k3 0 (.int (M5.1 v2 0)) (by decide) rfl fl_X1_94 rfl dX1_isGoodEntry_21 ?_
  refine n_callVi (As := [.int (4 : Int32), .int (M5.1 v2 0)]) (rest := []) h0 rfl (by decide) hC (c_X1_fail l M5 a0 (4 : Int32) (M5.1 v2 0) h0) my_X1_fail ml_X1_73 rfl rfl rfl (Nat.le_of_ble_eq_true rfl) ⟨by decide, by decide⟩ dX1_isGoodEntry_24 (fun r32 M33 => ?_)
  exact n_zret hC dX1_isGoodEntry_27
def j_X1_takeEnd_83 (a0 : Nat) (M : Me) : Option (Int32 × Me) := cal (f_X1_fail M a0 (2 : Int32) (M.1 a0 3)) (fun r7 M8 => chZ r7 (some (r7, M8)))
set_option maxHeartbeats 4000000 in
set_option maxRecDepth 100000 in
theorem b_X1_takeEnd_83 {p : Program} {l : Launch} {e : Env} {s : State} {m : MethodId} {args : Array Value} {below : List Frame} {meth : Method} {c : Code} {D : va_G} {T : Nat → ClassId} {b : Nat} (hC : CX p s m args meth c cX1_takeEnd 6 RX1 (some .boolean) D T) (a0 : Nat) (h0 : kd a0 = 1) (M : Me) : GN p l e (k2_rm 3 67) s m args below meth c D T b 6 eI 83 [(0, .ref (b + a0))] [] M (j_X1_takeEnd_83 a0 M) := by
  unfold j_X1_takeEnd_83
  refine n_aload_n hC 0 rfl dX1_takeEnd_83 ?_
  refine n_iconst hC (2 : Int32) (by decide) dX1_takeEnd_84 ?_
  refine n_aload_n hC 0 rfl dX1_takeEnd_85 ?_
  refine n_get hC clX1 h0 3 (.int (M.1 a0 3)) (by decide) rfl fl_X1_21 rfl dX1_takeEnd_86 ?_
  refine n_callVi (As := [.int (2 : Int32), .int (M.1 a0 3)]) (rest := []) h0 rfl (by decide) hC (c_X1_fail l M a0 (2 : Int32) (M.1 a0 3) h0) my_X1_fail ml_X1_73 rfl rfl rfl (Nat.le_of_ble_eq_true rfl) ⟨by decide, by decide⟩ dX1_takeEnd_89 (fun r7 M8 => ?_)
  exact n_zret hC dX1_takeEnd_92
def f_X1_takeEnd (M : Me) (a0 : Nat) : Option (Int32 × Me) := cal (f_X3_number2 M (rf a0 0) ((M.1 a0 3) + (8 : Int32))) (fun r1 M2 => cal (f_X3_number4 M2 (rf a0 0) ((M2.1 a0 3) + (12 : Int32))) (fun r3 M4 => cal (f_X3_number4 M4 (rf a0 0) ((M4.1 a0 3) + (16 : Int32))) (fun r5 M6 => if (0 : Int32) < (lg_cmp (r5 + r3) (((M6.1 a0 3)).toInt64)) then j_X1_takeEnd_83 a0 M6 else if (12 : Int32) < r1 then j_X1_takeEnd_83 a0 M6 else cal (f_X3_number2 M6 (rf a0 0) ((M6.1 a0 3) + (10 : Int32))) (fun r9 M10 => if r1 = r9 then bnd (sI M10 a0 2 r1) (fun M11 => bnd (sI M11 a0 5 r5.toInt32) (fun M12 => bnd (sI M12 a0 6 ((r5 + r3).toInt32)) (fun M13 => chZ (1 : Int32) (some ((1 : Int32), M13))))) else j_X1_takeEnd_83 a0 M10))))
set_option maxHeartbeats 4000000 in
set_option maxRecDepth 100000 in
theorem c_X1_takeEnd (l : Launch) (M : Me) (a0 : Nat) (h0 : kd a0 = 1) : CN l yX1_takeEnd cX1_takeEnd 6 (some .boolean) (k2_rm 3 67) eI (fun b => [.ref (b + a0)]) M (f_X1_takeEnd M a0) := by
  refine CN.of RX1 (fun b => [(0, .ref (b + a0))]) (by decide) rfl (fun b => Nat.le_of_ble_eq_true rfl) (fun b => rfl) ?_
  intro p e s m args below meth c D T b hC
  unfold f_X1_takeEnd
  refine n_aload_n hC 0 rfl dX1_takeEnd_0 ?_
  refine n_get hC clX1 h0 0 (.ref (b + (rf a0 0))) (by decide) rfl fl_X1_39 rfl dX1_takeEnd_1 ?_
  refine n_aload_n hC 0 rfl dX1_takeEnd_4 ?_
  refine n_get hC clX1 h0 3 (.int (M.1 a0 3)) (by decide) rfl fl_X1_21 rfl dX1_takeEnd_5 ?_
  refine n_bipush hC (8 : Int32) (by decide) dX1_takeEnd_8 ?_
  refine n_iadd hC dX1_takeEnd_10 ?_
  refine n_callVi (As := [.int ((M.1 a0 3) + (8 : Int32))]) (rest := []) (kf_X1_0 h0) rfl (by decide) hC (c_X3_number2 l M (rf a0 0) ((M.1 a0 3) + (8 : Int32)) (kf_X1_0 h0)) my_X3_number2 ml_X1_69 rfl rfl rfl (Nat.le_of_ble_eq_true rfl) ⟨by decide, by decide⟩ dX1_takeEnd_11 (fun r1 M2 => ?_)
  refine n_istore_n hC rfl [(1, .int r1), (0, .ref (b + a0))] (by decide) rfl dX1_takeEnd_14 ?_
  refine n_aload_n hC 1 rfl dX1_takeEnd_15 ?_
  refine n_get hC clX1 h0 0 (.ref (b + (rf a0 0))) (by decide) rfl fl_X1_39 rfl dX1_takeEnd_16 ?_
  refine n_aload_n hC 1 rfl dX1_takeEnd_19 ?_
  refine n_get hC clX1 h0 3 (.int (M2.1 a0 3)) (by decide) rfl fl_X1_21 rfl dX1_takeEnd_20 ?_
  refine n_bipush hC (12 : Int32) (by decide) dX1_takeEnd_23 ?_
  refine n_iadd hC dX1_takeEnd_25 ?_
  refine n_callVl (As := [.int ((M2.1 a0 3) + (12 : Int32))]) (rest := []) (kf_X1_0 h0) rfl (by decide) hC (c_X3_number4 l M2 (rf a0 0) ((M2.1 a0 3) + (12 : Int32)) (kf_X1_0 h0)) my_X3_number4 ml_X1_63 rfl rfl rfl (Nat.le_of_ble_eq_true rfl) ⟨by decide, by decide⟩ dX1_takeEnd_26 (fun r3 M4 => ?_)
  refine n_lstore_n hC rfl [(2, .long r3), (1, .int r1), (0, .ref (b + a0))] (by decide) rfl dX1_takeEnd_29 ?_
  refine n_aload_n hC 2 rfl dX1_takeEnd_30 ?_
  refine n_get hC clX1 h0 0 (.ref (b + (rf a0 0))) (by decide) rfl fl_X1_39 rfl dX1_takeEnd_31 ?_
  refine n_aload_n hC 2 rfl dX1_takeEnd_34 ?_
  refine n_get hC clX1 h0 3 (.int (M4.1 a0 3)) (by decide) rfl fl_X1_21 rfl dX1_takeEnd_35 ?_
  refine n_bipush hC (16 : Int32) (by decide) dX1_takeEnd_38 ?_
  refine n_iadd hC dX1_takeEnd_40 ?_
  refine n_callVl (As := [.int ((M4.1 a0 3) + (16 : Int32))]) (rest := []) (kf_X1_0 h0) rfl (by decide) hC (c_X3_number4 l M4 (rf a0 0) ((M4.1 a0 3) + (16 : Int32)) (kf_X1_0 h0)) my_X3_number4 ml_X1_63 rfl rfl rfl (Nat.le_of_ble_eq_true rfl) ⟨by decide, by decide⟩ dX1_takeEnd_41 (fun r5 M6 => ?_)
  refine n_lstore hC [(4, .long r5), (2, .long r3), (1, .int r1), (0, .ref (b + a0))] (by decide) rfl dX1_takeEnd_44 ?_
  refine n_lload hC 0 rfl dX1_takeEnd_46 ?_
  refine n_lload_n hC 1 rfl dX1_takeEnd_48 ?_
  refine n_ladd hC dX1_takeEnd_49 ?_
  refine n_aload_n hC 3 rfl dX1_takeEnd_50 ?_
  refine n_get hC clX1 h0 3 (.int (M6.1 a0 3)) (by decide) rfl fl_X1_21 rfl dX1_takeEnd_51 ?_
  refine n_i2l hC dX1_takeEnd_54 ?_
  refine n_lcmp hC dX1_takeEnd_55 ?_
  refine n_if_gt hC 83 dX1_takeEnd_56 (by decide) ?_ ?_
  · exact GN.sub [3] rfl (b_X1_takeEnd_83 hC a0 h0 M6)
  refine n_iload_n hC 2 rfl dX1_takeEnd_59 ?_
  refine n_bipush hC (12 : Int32) (by decide) dX1_takeEnd_60 ?_
  refine n_icmp_gt hC 83 dX1_takeEnd_62 (by decide) ?_ ?_
  · exact GN.sub [3] rfl (b_X1_takeEnd_83 hC a0 h0 M6)
  refine n_iload_n hC 2 rfl dX1_takeEnd_65 ?_
  refine n_aload_n hC 3 rfl dX1_takeEnd_66 ?_
  refine n_get hC clX1 h0 0 (.ref (b + (rf a0 0))) (by decide) rfl fl_X1_39 rfl dX1_takeEnd_67 ?_
  refine n_aload_n hC 3 rfl dX1_takeEnd_70 ?_
  refine n_get hC clX1 h0 3 (.int (M6.1 a0 3)) (by decide) rfl fl_X1_21 rfl dX1_takeEnd_71 ?_
  refine n_bipush hC (10 : Int32) (by decide) dX1_takeEnd_74 ?_
  refine n_iadd hC dX1_takeEnd_76 ?_
  refine n_callVi (As := [.int ((M6.1 a0 3) + (10 : Int32))]) (rest := [.int r1]) (kf_X1_0 h0) rfl (by decide) hC (c_X3_number2 l M6 (rf a0 0) ((M6.1 a0 3) + (10 : Int32)) (kf_X1_0 h0)) my_X3_number2 ml_X1_69 rfl rfl rfl (Nat.le_of_ble_eq_true rfl) ⟨by decide, by decide⟩ dX1_takeEnd_77 (fun r9 M10 => ?_)
  refine n_icmp_eq hC 93 dX1_takeEnd_80 (by decide) ?_ ?_
  · refine n_aload_n hC 3 rfl dX1_takeEnd_93 ?_
    refine n_iload_n hC 2 rfl dX1_takeEnd_94 ?_
    refine n_putI hC clX1 h0 2 (by decide) rfl rfl rfl fl_X1_17 dX1_takeEnd_95 (fun M11 => ?_)
    refine n_aload_n hC 3 rfl dX1_takeEnd_98 ?_
    refine n_lload hC 0 rfl dX1_takeEnd_99 ?_
    refine n_l2i hC dX1_takeEnd_101 ?_
    refine n_putI hC clX1 h0 5 (by decide) rfl rfl rfl fl_X1_27 dX1_takeEnd_102 (fun M12 => ?_)
    refine n_aload_n hC 3 rfl dX1_takeEnd_105 ?_
    refine n_lload hC 0 rfl dX1_takeEnd_106 ?_
    refine n_lload_n hC 1 rfl dX1_takeEnd_108 ?_
    refine n_ladd hC dX1_takeEnd_109 ?_
    refine n_l2i hC dX1_takeEnd_110 ?_
    refine n_putI hC clX1 h0 6 (by decide) rfl rfl rfl fl_X1_30 dX1_takeEnd_111 (fun M13 => ?_)
    refine n_iconst hC (1 : Int32) (by decide) dX1_takeEnd_114 ?_
    exact n_zret hC dX1_takeEnd_115
  exact GN.sub [3] rfl (b_X1_takeEnd_83 hC a0 h0 M10)
def f_X1_takeRow (M : Me) (a0 : Nat) (a1 : Nat) (x2 : Int32) : Option (Int32 × Me) := if (M.1 a0 6) < (x2 + (46 : Int32)) then chZ (0 : Int32) (some ((0 : Int32), M)) else cal (f_X3_number4 M (rf a0 0) x2) (fun r1 M2 => if (lg_cmp r1 (33639248 : Int64)) = (0 : Int32) then cal (f_X2_takeFixed M2 a1 (rf a0 0) x2) (fun _ M4 => cal (f_X3_number2 M4 (rf a0 0) (x2 + (32 : Int32))) (fun r5 M6 => if r5 = (0 : Int32) then cal (f_X2_endPlace M6 a1) (fun r7 M8 => if (M8.1 a0 6) < r7 then chZ (0 : Int32) (some ((0 : Int32), M8)) else chZ (1 : Int32) (some ((1 : Int32), M8))) else chZ (0 : Int32) (some ((0 : Int32), M6)))) else chZ (0 : Int32) (some ((0 : Int32), M2)))
set_option maxHeartbeats 4000000 in
set_option maxRecDepth 100000 in
theorem c_X1_takeRow (l : Launch) (M : Me) (a0 : Nat) (a1 : Nat) (x2 : Int32) (h0 : kd a0 = 1) (h1 : kd a1 = 2) : CN l yX1_takeRow cX1_takeRow 3 (some .boolean) (k2_rm 4 89) eI (fun b => [.ref (b + a0), .ref (b + a1), .int x2]) M (f_X1_takeRow M a0 a1 x2) := by
  refine CN.of RX1 (fun b => [(0, .ref (b + a0)), (1, .ref (b + a1)), (2, .int x2)]) (by decide) rfl (fun b => Nat.le_of_ble_eq_true rfl) (fun b => rfl) ?_
  intro p e s m args below meth c D T b hC
  unfold f_X1_takeRow
  refine n_iload_n hC 2 rfl dX1_takeRow_0 ?_
  refine n_bipush hC (46 : Int32) (by decide) dX1_takeRow_1 ?_
  refine n_iadd hC dX1_takeRow_3 ?_
  refine n_aload_n hC 0 rfl dX1_takeRow_4 ?_
  refine n_get hC clX1 h0 6 (.int (M.1 a0 6)) (by decide) rfl fl_X1_30 rfl dX1_takeRow_5 ?_
  refine n_icmp_gt hC 26 dX1_takeRow_8 (by decide) ?_ ?_
  · refine n_iconst hC (0 : Int32) (by decide) dX1_takeRow_26 ?_
    exact n_zret hC dX1_takeRow_27
  refine n_aload_n hC 0 rfl dX1_takeRow_11 ?_
  refine n_get hC clX1 h0 0 (.ref (b + (rf a0 0))) (by decide) rfl fl_X1_39 rfl dX1_takeRow_12 ?_
  refine n_iload_n hC 2 rfl dX1_takeRow_15 ?_
  refine n_callVl (As := [.int x2]) (rest := []) (kf_X1_0 h0) rfl (by decide) hC (c_X3_number4 l M (rf a0 0) x2 (kf_X1_0 h0)) my_X3_number4 ml_X1_63 rfl rfl rfl (Nat.le_of_ble_eq_true rfl) ⟨by decide, by decide⟩ dX1_takeRow_16 (fun r1 M2 => ?_)
  refine n_ldc2 hC (33639248 : Int64) kc_X1_84 dX1_takeRow_19 ?_
  refine n_lcmp hC dX1_takeRow_22 ?_
  refine n_if_eq hC 28 dX1_takeRow_23 (by decide) ?_ ?_
  · refine n_aload_n hC 1 rfl dX1_takeRow_28 ?_
    refine n_aload_n hC 0 rfl dX1_takeRow_29 ?_
    refine n_get hC clX1 h0 0 (.ref (b + (rf a0 0))) (by decide) rfl fl_X1_39 rfl dX1_takeRow_30 ?_
    refine n_iload_n hC 2 rfl dX1_takeRow_33 ?_
    refine n_callVv (As := [.ref (b + (rf a0 0)), .int x2]) (rest := []) h1 rfl (by decide) hC (c_X2_takeFixed l M2 a1 (rf a0 0) x2 h1 (kf_X1_0 h0)) my_X2_takeFixed ml_X1_86 rfl rfl rfl (Nat.le_of_ble_eq_true rfl) ⟨by decide, by decide⟩ dX1_takeRow_34 (fun r3 M4 => ?_)
    refine n_aload_n hC 0 rfl dX1_takeRow_37 ?_
    refine n_get hC clX1 h0 0 (.ref (b + (rf a0 0))) (by decide) rfl fl_X1_39 rfl dX1_takeRow_38 ?_
    refine n_iload_n hC 2 rfl dX1_takeRow_41 ?_
    refine n_bipush hC (32 : Int32) (by decide) dX1_takeRow_42 ?_
    refine n_iadd hC dX1_takeRow_44 ?_
    refine n_callVi (As := [.int (x2 + (32 : Int32))]) (rest := []) (kf_X1_0 h0) rfl (by decide) hC (c_X3_number2 l M4 (rf a0 0) (x2 + (32 : Int32)) (kf_X1_0 h0)) my_X3_number2 ml_X1_69 rfl rfl rfl (Nat.le_of_ble_eq_true rfl) ⟨by decide, by decide⟩ dX1_takeRow_45 (fun r5 M6 => ?_)
    refine n_if_ne hC 66 dX1_takeRow_48 (by decide) ?_ ?_
    · refine n_iconst hC (0 : Int32) (by decide) dX1_takeRow_66 ?_
      exact n_zret hC dX1_takeRow_67
    refine n_aload_n hC 1 rfl dX1_takeRow_51 ?_
    refine n_callVi (As := []) (rest := []) h1 rfl (by decide) hC (c_X2_endPlace l M6 a1 h1) my_X2_endPlace ml_X1_81 rfl rfl rfl (Nat.le_of_ble_eq_true rfl) ⟨by decide, by decide⟩ dX1_takeRow_52 (fun r7 M8 => ?_)
    refine n_aload_n hC 0 rfl dX1_takeRow_55 ?_
    refine n_get hC clX1 h0 6 (.int (M8.1 a0 6)) (by decide) rfl fl_X1_30 rfl dX1_takeRow_56 ?_
    refine n_icmp_gt hC 66 dX1_takeRow_59 (by decide) ?_ ?_
    · refine n_iconst hC (0 : Int32) (by decide) dX1_takeRow_66 ?_
      exact n_zret hC dX1_takeRow_67
    refine n_iconst hC (1 : Int32) (by decide) dX1_takeRow_62 ?_
    refine n_goto hC (tgt := 67) (by decide) dX1_takeRow_63 ?_
    exact n_zret hC dX1_takeRow_67
  refine n_iconst hC (0 : Int32) (by decide) dX1_takeRow_26 ?_
  exact n_zret hC dX1_takeRow_27
def g_X1_takeRows_7 (kx : Int32 → Int32 → Me → Option (Int32 × Me)) (kb : Int32 × Int32 × Me → Option (Int32 × Me)) (a0 : Nat) (x1 : Int32) (x2 : Int32) (M : Me) : Option (Int32 × Me) := if (M.1 a0 2) ≤ x2 then kx x1 x2 M else if (12 : Int32) ≤ x2 then kx x1 x2 M else chk x2 (ln (rf a0 1)) (cal (f_X1_takeRow M a0 (rf (rf a0 1) x2.toNatClampNeg) x1) (fun r3 M4 => if r3 = (0 : Int32) then cal (f_X1_fail M4 a0 (3 : Int32) x1) (fun r9 M10 => chZ r9 (some (r9, M10))) else chk x2 (ln (rf a0 1)) (cal (f_X2_endPlace M4 (rf (rf a0 1) x2.toNatClampNeg)) (fun r6 M7 => bndV (x2 + (1 : Int32)) (fun v8 => kb (r6, v8, M7))))))
set_option maxHeartbeats 4000000 in
set_option maxRecDepth 100000 in
theorem b_X1_takeRows_7_g {p : Program} {l : Launch} {e : Env} {s : State} {m : MethodId} {args : Array Value} {below : List Frame} {meth : Method} {c : Code} {D : va_G} {T : Nat → ClassId} {b : Nat} (hC : CX p s m args meth c cX1_takeRows 3 RX1 (some .boolean) D T) (a0 : Nat) (x1 : Int32) (x2 : Int32) (h0 : kd a0 = 1) (kx : Int32 → Int32 → Me → Option (Int32 × Me)) (hkx : ∀ (x1 : Int32) (x2 : Int32) (M : Me), GN p l e (k2_rm 5 111) s m args below meth c D T b 3 eI 58 [(0, .ref (b + a0)), (1, .int x1)] [] M (kx x1 x2 M)) (kb : Int32 × Int32 × Me → Option (Int32 × Me)) (hkb : ∀ z : Int32 × Int32 × Me, GN p l e (k2_rm 5 111) s m args below meth c D T b 3 eI 7 [(0, .ref (b + a0)), (1, .int z.1), (2, .int z.2.1)] [] z.2.2 (kb z)) (M : Me) : GN p l e (k2_rm 5 111) s m args below meth c D T b 3 eI 7 [(0, .ref (b + a0)), (1, .int x1), (2, .int x2)] [] M (g_X1_takeRows_7 kx kb a0 x1 x2 M) := by
  unfold g_X1_takeRows_7
  refine n_iload_n hC 2 rfl dX1_takeRows_7 ?_
  refine n_aload_n hC 0 rfl dX1_takeRows_8 ?_
  refine n_get hC clX1 h0 2 (.int (M.1 a0 2)) (by decide) rfl fl_X1_17 rfl dX1_takeRows_9 ?_
  refine n_icmp_ge hC 58 dX1_takeRows_12 (by decide) ?_ ?_
  · exact GN.sub [0, 1] rfl (hkx x1 x2 M)
  refine n_iload_n hC 2 rfl dX1_takeRows_15 ?_
  refine n_bipush hC (12 : Int32) (by decide) dX1_takeRows_16 ?_
  refine n_icmp_ge hC 58 dX1_takeRows_18 (by decide) ?_ ?_
  · exact GN.sub [0, 1] rfl (hkx x1 x2 M)
  refine n_aload_n hC 0 rfl dX1_takeRows_21 ?_
  refine n_aload_n hC 0 rfl dX1_takeRows_22 ?_
  refine n_get hC clX1 h0 1 (.ref (b + (rf a0 1))) (by decide) rfl fl_X1_11 rfl dX1_takeRows_23 ?_
  refine n_iload_n hC 2 rfl dX1_takeRows_26 ?_
  refine n_aaldR hC (kf_X1_1 h0) dX1_takeRows_27 (fun g2 => ?_)
  refine n_iload_n hC 1 rfl dX1_takeRows_28 ?_
  refine n_callVi (As := [.ref (b + (rf (rf a0 1) x2.toNatClampNeg)), .int x1]) (rest := []) h0 rfl (by decide) hC (c_X1_takeRow l M a0 (rf (rf a0 1) x2.toNatClampNeg) x1 h0 (ke_10 (kf_X1_1 h0) g2)) my_X1_takeRow ml_X1_77 rfl rfl rfl (Nat.le_of_ble_eq_true rfl) ⟨by decide, by decide⟩ dX1_takeRows_29 (fun r3 M4 => ?_)
  refine n_if_ne hC 42 dX1_takeRows_32 (by decide) ?_ ?_
  · refine n_aload_n hC 0 rfl dX1_takeRows_42 ?_
    refine n_get hC clX1 h0 1 (.ref (b + (rf a0 1))) (by decide) rfl fl_X1_11 rfl dX1_takeRows_43 ?_
    refine n_iload_n hC 2 rfl dX1_takeRows_46 ?_
    refine n_aaldR hC (kf_X1_1 h0) dX1_takeRows_47 (fun g5 => ?_)
    refine n_callVi (As := []) (rest := []) (ke_10 (kf_X1_1 h0) g5) rfl (by decide) hC (c_X2_endPlace l M4 (rf (rf a0 1) x2.toNatClampNeg) (ke_10 (kf_X1_1 h0) g5)) my_X2_endPlace ml_X1_81 rfl rfl rfl (Nat.le_of_ble_eq_true rfl) ⟨by decide, by decide⟩ dX1_takeRows_48 (fun r6 M7 => ?_)
    refine n_istore_n hC rfl [(1, .int r6), (0, .ref (b + a0)), (2, .int x2)] (by decide) rfl dX1_takeRows_51 ?_
    refine n_iincB hC (1 : Int32) (by decide) (fun v8 => [(2, .int v8), (1, .int r6), (0, .ref (b + a0))]) 2 rfl (by decide) (fun _ => rfl) dX1_takeRows_52 (fun v8 => ?_)
    refine n_goto hC (tgt := 7) (by decide) dX1_takeRows_55 ?_
    exact GN.sub [2, 1, 0] rfl (hkb (r6, v8, M7))
  refine n_aload_n hC 0 rfl dX1_takeRows_35 ?_
  refine n_iconst hC (3 : Int32) (by decide) dX1_takeRows_36 ?_
  refine n_iload_n hC 1 rfl dX1_takeRows_37 ?_
  refine n_callVi (As := [.int (3 : Int32), .int x1]) (rest := []) h0 rfl (by decide) hC (c_X1_fail l M4 a0 (3 : Int32) x1 h0) my_X1_fail ml_X1_73 rfl rfl rfl (Nat.le_of_ble_eq_true rfl) ⟨by decide, by decide⟩ dX1_takeRows_38 (fun r9 M10 => ?_)
  exact n_zret hC dX1_takeRows_41
def l_X1_takeRows_7 (kx : Int32 → Int32 → Me → Option (Int32 × Me)) (a0 : Nat) (x1 : Int32) (x2 : Int32) (M : Me) : Option (Int32 × Me) := lp (fun kb z => g_X1_takeRows_7 kx kb a0 z.1 z.2.1 z.2.2) FU (x1, x2, M)
set_option maxHeartbeats 4000000 in
set_option maxRecDepth 100000 in
theorem b_X1_takeRows_7 {p : Program} {l : Launch} {e : Env} {s : State} {m : MethodId} {args : Array Value} {below : List Frame} {meth : Method} {c : Code} {D : va_G} {T : Nat → ClassId} {b : Nat} (hC : CX p s m args meth c cX1_takeRows 3 RX1 (some .boolean) D T) (a0 : Nat) (x1 : Int32) (x2 : Int32) (h0 : kd a0 = 1) (kx : Int32 → Int32 → Me → Option (Int32 × Me)) (hkx : ∀ (x1 : Int32) (x2 : Int32) (M : Me), GN p l e (k2_rm 5 111) s m args below meth c D T b 3 eI 58 [(0, .ref (b + a0)), (1, .int x1)] [] M (kx x1 x2 M)) (M : Me) : GN p l e (k2_rm 5 111) s m args below meth c D T b 3 eI 7 [(0, .ref (b + a0)), (1, .int x1), (2, .int x2)] [] M (l_X1_takeRows_7 kx a0 x1 x2 M) := by
  exact n_loop (σ := Int32 × Int32 × Me) (fun z => [(0, .ref (b + a0)), (1, .int z.1), (2, .int z.2.1)]) (fun z => z.2.2) (fun kb hkb z => b_X1_takeRows_7_g hC a0 z.1 z.2.1 h0 kx hkx kb hkb z.2.2) FU (x1, x2, M)
def j_X1_takeRows_58 (a0 : Nat) (x1 : Int32) (M : Me) : Option (Int32 × Me) := if x1 = (M.1 a0 6) then chZ (1 : Int32) (some ((1 : Int32), M)) else cal (f_X1_fail M a0 (3 : Int32) x1) (fun r14 M15 => if r14 = (0 : Int32) then chZ (0 : Int32) (some ((0 : Int32), M15)) else chZ (1 : Int32) (some ((1 : Int32), M15)))
set_option maxHeartbeats 4000000 in
set_option maxRecDepth 100000 in
theorem b_X1_takeRows_58 {p : Program} {l : Launch} {e : Env} {s : State} {m : MethodId} {args : Array Value} {below : List Frame} {meth : Method} {c : Code} {D : va_G} {T : Nat → ClassId} {b : Nat} (hC : CX p s m args meth c cX1_takeRows 3 RX1 (some .boolean) D T) (a0 : Nat) (x1 : Int32) (h0 : kd a0 = 1) (M : Me) : GN p l e (k2_rm 5 111) s m args below meth c D T b 3 eI 58 [(0, .ref (b + a0)), (1, .int x1)] [] M (j_X1_takeRows_58 a0 x1 M) := by
  unfold j_X1_takeRows_58
  refine n_iload_n hC 1 rfl dX1_takeRows_58 ?_
  refine n_aload_n hC 0 rfl dX1_takeRows_59 ?_
  refine n_get hC clX1 h0 6 (.int (M.1 a0 6)) (by decide) rfl fl_X1_30 rfl dX1_takeRows_60 ?_
  refine n_icmp_eq hC 75 dX1_takeRows_63 (by decide) ?_ ?_
  · refine n_iconst hC (1 : Int32) (by decide) dX1_takeRows_75 ?_
    refine n_goto hC (tgt := 80) (by decide) dX1_takeRows_76 ?_
    exact n_zret hC dX1_takeRows_80
  refine n_aload_n hC 0 rfl dX1_takeRows_66 ?_
  refine n_iconst hC (3 : Int32) (by decide) dX1_takeRows_67 ?_
  refine n_iload_n hC 1 rfl dX1_takeRows_68 ?_
  refine n_callVi (As := [.int (3 : Int32), .int x1]) (rest := []) h0 rfl (by decide) hC (c_X1_fail l M a0 (3 : Int32) x1 h0) my_X1_fail ml_X1_73 rfl rfl rfl (Nat.le_of_ble_eq_true rfl) ⟨by decide, by decide⟩ dX1_takeRows_69 (fun r14 M15 => ?_)
  refine n_if_eq hC 79 dX1_takeRows_72 (by decide) ?_ ?_
  · refine n_iconst hC (0 : Int32) (by decide) dX1_takeRows_79 ?_
    exact n_zret hC dX1_takeRows_80
  refine n_iconst hC (1 : Int32) (by decide) dX1_takeRows_75 ?_
  refine n_goto hC (tgt := 80) (by decide) dX1_takeRows_76 ?_
  exact n_zret hC dX1_takeRows_80
def f_X1_takeRows (M : Me) (a0 : Nat) : Option (Int32 × Me) := bndV (M.1 a0 5) (fun v1 => l_X1_takeRows_7 (fun v11 v12 M13 => j_X1_takeRows_58 a0 v11 M13) a0 v1 (0 : Int32) M)
set_option maxHeartbeats 4000000 in
set_option maxRecDepth 100000 in
theorem c_X1_takeRows (l : Launch) (M : Me) (a0 : Nat) (h0 : kd a0 = 1) : CN l yX1_takeRows cX1_takeRows 3 (some .boolean) (k2_rm 5 111) eI (fun b => [.ref (b + a0)]) M (f_X1_takeRows M a0) := by
  refine CN.of RX1 (fun b => [(0, .ref (b + a0))]) (by decide) rfl (fun b => Nat.le_of_ble_eq_true rfl) (fun b => rfl) ?_
  intro p e s m args below meth c D T b hC
  unfold f_X1_takeRows
  refine n_aload_n hC 0 rfl dX1_takeRows_0 ?_
  refine n_get hC clX1 h0 5 (.int (M.1 a0 5)) (by decide) rfl fl_X1_27 rfl dX1_takeRows_1 ?_
  refine n_istB_n hC rfl (fun v1 => [(1, .int v1), (0, .ref (b + a0))]) (by decide) (fun _ => rfl) dX1_takeRows_4 (fun v1 => ?_)
  refine n_iconst hC (0 : Int32) (by decide) dX1_takeRows_5 ?_
  refine n_istore_n hC rfl [(2, .int (0 : Int32)), (1, .int v1), (0, .ref (b + a0))] (by decide) rfl dX1_takeRows_6 ?_
  refine GN.sub [2, 1, 0] rfl (b_X1_takeRows_7 hC a0 v1 (0 : Int32) h0 _ (fun v11 v12 M13 => ?_) M)
  exact GN.sub [0, 1] rfl (b_X1_takeRows_58 hC a0 v11 h0 M13)
def g_X1_isWhole_25 (kx : Int32 → Me → Option (Int32 × Me)) (kb : Int32 × Me → Option (Int32 × Me)) (a0 : Nat) (x1 : Int32) (M : Me) : Option (Int32 × Me) := if (M.1 a0 2) ≤ x1 then kx x1 M else if (12 : Int32) ≤ x1 then kx x1 M else cal (f_X1_isGoodEntry M a0 x1) (fun r7 M8 => if r7 = (0 : Int32) then chZ (0 : Int32) (some ((0 : Int32), M8)) else bndV (x1 + (1 : Int32)) (fun v9 => kb (v9, M8)))
set_option maxHeartbeats 4000000 in
set_option maxRecDepth 100000 in
theorem b_X1_isWhole_25_g {p : Program} {l : Launch} {e : Env} {s : State} {m : MethodId} {args : Array Value} {below : List Frame} {meth : Method} {c : Code} {D : va_G} {T : Nat → ClassId} {b : Nat} (hC : CX p s m args meth c cX1_isWhole 2 RX1 (some .boolean) D T) (a0 : Nat) (x1 : Int32) (h0 : kd a0 = 1) (kx : Int32 → Me → Option (Int32 × Me)) (hkx : ∀ (x1 : Int32) (M : Me), GN p l e (k2_rm 6 134) s m args below meth c D T b 2 eI 55 [] [] M (kx x1 M)) (kb : Int32 × Me → Option (Int32 × Me)) (hkb : ∀ z : Int32 × Me, GN p l e (k2_rm 6 134) s m args below meth c D T b 2 eI 25 [(0, .ref (b + a0)), (1, .int z.1)] [] z.2 (kb z)) (M : Me) : GN p l e (k2_rm 6 134) s m args below meth c D T b 2 eI 25 [(0, .ref (b + a0)), (1, .int x1)] [] M (g_X1_isWhole_25 kx kb a0 x1 M) := by
  unfold g_X1_isWhole_25
  refine n_iload_n hC 1 rfl dX1_isWhole_25 ?_
  refine n_aload_n hC 0 rfl dX1_isWhole_26 ?_
  refine n_get hC clX1 h0 2 (.int (M.1 a0 2)) (by decide) rfl fl_X1_17 rfl dX1_isWhole_27 ?_
  refine n_icmp_ge hC 55 dX1_isWhole_30 (by decide) ?_ ?_
  · exact GN.sub [] rfl (hkx x1 M)
  refine n_iload_n hC 1 rfl dX1_isWhole_33 ?_
  refine n_bipush hC (12 : Int32) (by decide) dX1_isWhole_34 ?_
  refine n_icmp_ge hC 55 dX1_isWhole_36 (by decide) ?_ ?_
  · exact GN.sub [] rfl (hkx x1 M)
  refine n_aload_n hC 0 rfl dX1_isWhole_39 ?_
  refine n_iload_n hC 1 rfl dX1_isWhole_40 ?_
  refine n_callVi (As := [.int x1]) (rest := []) h0 rfl (by decide) hC (c_X1_isGoodEntry l M a0 x1 h0) my_X1_isGoodEntry ml_X1_54 rfl rfl rfl (Nat.le_of_ble_eq_true rfl) ⟨by decide, by decide⟩ dX1_isWhole_41 (fun r7 M8 => ?_)
  refine n_if_ne hC 49 dX1_isWhole_44 (by decide) ?_ ?_
  · refine n_iincB hC (1 : Int32) (by decide) (fun v9 => [(1, .int v9), (0, .ref (b + a0))]) 1 rfl (by decide) (fun _ => rfl) dX1_isWhole_49 (fun v9 => ?_)
    refine n_goto hC (tgt := 25) (by decide) dX1_isWhole_52 ?_
    exact GN.sub [1, 0] rfl (hkb (v9, M8))
  refine n_iconst hC (0 : Int32) (by decide) dX1_isWhole_47 ?_
  exact n_zret hC dX1_isWhole_48
def l_X1_isWhole_25 (kx : Int32 → Me → Option (Int32 × Me)) (a0 : Nat) (x1 : Int32) (M : Me) : Option (Int32 × Me) := lp (fun kb z => g_X1_isWhole_25 kx kb a0 z.1 z.2) FU (x1, M)
set_option maxHeartbeats 4000000 in
set_option maxRecDepth 100000 in
theorem b_X1_isWhole_25 {p : Program} {l : Launch} {e : Env} {s : State} {m : MethodId} {args : Array Value} {below : List Frame} {meth : Method} {c : Code} {D : va_G} {T : Nat → ClassId} {b : Nat} (hC : CX p s m args meth c cX1_isWhole 2 RX1 (some .boolean) D T) (a0 : Nat) (x1 : Int32) (h0 : kd a0 = 1) (kx : Int32 → Me → Option (Int32 × Me)) (hkx : ∀ (x1 : Int32) (M : Me), GN p l e (k2_rm 6 134) s m args below meth c D T b 2 eI 55 [] [] M (kx x1 M)) (M : Me) : GN p l e (k2_rm 6 134) s m args below meth c D T b 2 eI 25 [(0, .ref (b + a0)), (1, .int x1)] [] M (l_X1_isWhole_25 kx a0 x1 M) := by
  exact n_loop (σ := Int32 × Me) (fun z => [(0, .ref (b + a0)), (1, .int z.1)]) (fun z => z.2) (fun kb hkb z => b_X1_isWhole_25_g hC a0 z.1 h0 kx hkx kb hkb z.2) FU (x1, M)
def f_X1_isWhole (M : Me) (a0 : Nat) : Option (Int32 × Me) := cal (f_X1_findEnd M a0) (fun r1 M2 => if r1 = (0 : Int32) then chZ (0 : Int32) (some ((0 : Int32), M2)) else cal (f_X1_takeEnd M2 a0) (fun r3 M4 => if r3 = (0 : Int32) then chZ (0 : Int32) (some ((0 : Int32), M4)) else cal (f_X1_takeRows M4 a0) (fun r5 M6 => if r5 = (0 : Int32) then chZ (0 : Int32) (some ((0 : Int32), M6)) else l_X1_isWhole_25 (fun v10 M11 => chZ (1 : Int32) (some ((1 : Int32), M11))) a0 (0 : Int32) M6)))
set_option maxHeartbeats 4000000 in
set_option maxRecDepth 100000 in
theorem c_X1_isWhole (l : Launch) (M : Me) (a0 : Nat) (h0 : kd a0 = 1) : CN l yX1_isWhole cX1_isWhole 2 (some .boolean) (k2_rm 6 134) eI (fun b => [.ref (b + a0)]) M (f_X1_isWhole M a0) := by
  refine CN.of RX1 (fun b => [(0, .ref (b + a0))]) (by decide) rfl (fun b => Nat.le_of_ble_eq_true rfl) (fun b => rfl) ?_
  intro p e s m args below meth c D T b hC
  unfold f_X1_isWhole
  refine n_aload_n hC 0 rfl dX1_isWhole_0 ?_
  refine n_callVi (As := []) (rest := []) h0 rfl (by decide) hC (c_X1_findEnd l M a0 h0) my_X1_findEnd ml_X1_44 rfl rfl rfl (Nat.le_of_ble_eq_true rfl) ⟨by decide, by decide⟩ dX1_isWhole_1 (fun r1 M2 => ?_)
  refine n_if_eq hC 21 dX1_isWhole_4 (by decide) ?_ ?_
  · refine n_iconst hC (0 : Int32) (by decide) dX1_isWhole_21 ?_
    exact n_zret hC dX1_isWhole_22
  refine n_aload_n hC 0 rfl dX1_isWhole_7 ?_
  refine n_callVi (As := []) (rest := []) h0 rfl (by decide) hC (c_X1_takeEnd l M2 a0 h0) my_X1_takeEnd ml_X1_48 rfl rfl rfl (Nat.le_of_ble_eq_true rfl) ⟨by decide, by decide⟩ dX1_isWhole_8 (fun r3 M4 => ?_)
  refine n_if_eq hC 21 dX1_isWhole_11 (by decide) ?_ ?_
  · refine n_iconst hC (0 : Int32) (by decide) dX1_isWhole_21 ?_
    exact n_zret hC dX1_isWhole_22
  refine n_aload_n hC 0 rfl dX1_isWhole_14 ?_
  refine n_callVi (As := []) (rest := []) h0 rfl (by decide) hC (c_X1_takeRows l M4 a0 h0) my_X1_takeRows ml_X1_51 rfl rfl rfl (Nat.le_of_ble_eq_true rfl) ⟨by decide, by decide⟩ dX1_isWhole_15 (fun r5 M6 => ?_)
  refine n_if_ne hC 23 dX1_isWhole_18 (by decide) ?_ ?_
  · refine n_iconst hC (0 : Int32) (by decide) dX1_isWhole_23 ?_
    refine n_istore_n hC rfl [(1, .int (0 : Int32)), (0, .ref (b + a0))] (by decide) rfl dX1_isWhole_24 ?_
    refine GN.sub [1, 0] rfl (b_X1_isWhole_25 hC a0 (0 : Int32) h0 _ (fun v10 M11 => ?_) M6)
    refine n_iconst hC (1 : Int32) (by decide) dX1_isWhole_55 ?_
    exact n_zret hC dX1_isWhole_56
  refine n_iconst hC (0 : Int32) (by decide) dX1_isWhole_21 ?_
  exact n_zret hC dX1_isWhole_22
