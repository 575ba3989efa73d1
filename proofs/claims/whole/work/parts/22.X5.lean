def g_X5_areAlike_3 (kx : Int32 → Me → Option (Int32 × Me)) (kb : Int32 × Me → Option (Int32 × Me)) (a0 : Nat) (x1 : Int32) (x2 : Int32) (x3 : Int32) (x4 : Int32) (M : Me) : Option (Int32 × Me) := if x3 ≤ x4 then kx x4 M else chk (x1 + x4) (ln (rf a0 23)) (chk (x2 + x4) (ln (rf a0 23)) (if (M.1 (rf a0 23) (x1 + x4).toNatClampNeg) = (M.1 (rf a0 23) (x2 + x4).toNatClampNeg) then bndV (x4 + (1 : Int32)) (fun v3 => kb (v3, M)) else chZ (0 : Int32) (some ((0 : Int32), M))))
set_option maxHeartbeats 4000000 in
set_option maxRecDepth 100000 in
theorem b_X5_areAlike_3_g {p : Program} {l : Launch} {e : Env} {s : State} {m : MethodId} {args : Array Value} {below : List Frame} {meth : Method} {c : Code} {D : va_G} {T : Nat → ClassId} {b : Nat} (hC : CX p s m args meth c cX5_areAlike 5 RX5 (some .boolean) D T) (a0 : Nat) (x1 : Int32) (x2 : Int32) (x3 : Int32) (x4 : Int32) (h0 : kd a0 = 5) (kx : Int32 → Me → Option (Int32 × Me)) (hkx : ∀ (x4 : Int32) (M : Me), GN p l e (k2_rm 0 0) s m args below meth c D T b 5 eI 38 [] [] M (kx x4 M)) (kb : Int32 × Me → Option (Int32 × Me)) (hkb : ∀ z : Int32 × Me, GN p l e (k2_rm 0 0) s m args below meth c D T b 5 eI 3 [(0, .ref (b + a0)), (1, .int x1), (2, .int x2), (3, .int x3), (4, .int z.1)] [] z.2 (kb z)) (M : Me) : GN p l e (k2_rm 0 0) s m args below meth c D T b 5 eI 3 [(0, .ref (b + a0)), (1, .int x1), (2, .int x2), (3, .int x3), (4, .int x4)] [] M (g_X5_areAlike_3 kx kb a0 x1 x2 x3 x4 M) := by
  unfold g_X5_areAlike_3
  refine n_iload hC 4 rfl dX5_areAlike_3 ?_
  refine n_iload_n hC 3 rfl dX5_areAlike_5 ?_
  refine n_icmp_ge hC 38 dX5_areAlike_6 (by decide) ?_ ?_
  · exact GN.sub [] rfl (hkx x4 M)
  refine n_aload_n hC 0 rfl dX5_areAlike_9 ?_
  refine n_get hC clX5 h0 23 (.ref (b + (rf a0 23))) (by decide) rfl fl_X5_128 rfl dX5_areAlike_10 ?_
  refine n_iload_n hC 1 rfl dX5_areAlike_13 ?_
  refine n_iload hC 4 rfl dX5_areAlike_14 ?_
  refine n_iadd hC dX5_areAlike_16 ?_
  refine n_iald hC (kf_X5_23 h0) dX5_areAlike_17 (fun g1 => ?_)
  refine n_aload_n hC 0 rfl dX5_areAlike_18 ?_
  refine n_get hC clX5 h0 23 (.ref (b + (rf a0 23))) (by decide) rfl fl_X5_128 rfl dX5_areAlike_19 ?_
  refine n_iload_n hC 2 rfl dX5_areAlike_22 ?_
  refine n_iload hC 4 rfl dX5_areAlike_23 ?_
  refine n_iadd hC dX5_areAlike_25 ?_
  refine n_iald hC (kf_X5_23 h0) dX5_areAlike_26 (fun g2 => ?_)
  refine n_icmp_eq hC 32 dX5_areAlike_27 (by decide) ?_ ?_
  · refine n_iincB hC (1 : Int32) (by decide) (fun v3 => [(4, .int v3), (0, .ref (b + a0)), (1, .int x1), (2, .int x2), (3, .int x3)]) 4 rfl (by decide) (fun _ => rfl) dX5_areAlike_32 (fun v3 => ?_)
    refine n_goto hC (tgt := 3) (by decide) dX5_areAlike_35 ?_
    exact GN.sub [1, 2, 3, 4, 0] rfl (hkb (v3, M))
  refine n_iconst hC (0 : Int32) (by decide) dX5_areAlike_30 ?_
  exact n_zret hC dX5_areAlike_31
def l_X5_areAlike_3 (kx : Int32 → Me → Option (Int32 × Me)) (a0 : Nat) (x1 : Int32) (x2 : Int32) (x3 : Int32) (x4 : Int32) (M : Me) : Option (Int32 × Me) := lp (fun kb z => g_X5_areAlike_3 kx kb a0 x1 x2 x3 z.1 z.2) FU (x4, M)
set_option maxHeartbeats 4000000 in
set_option maxRecDepth 100000 in
theorem b_X5_areAlike_3 {p : Program} {l : Launch} {e : Env} {s : State} {m : MethodId} {args : Array Value} {below : List Frame} {meth : Method} {c : Code} {D : va_G} {T : Nat → ClassId} {b : Nat} (hC : CX p s m args meth c cX5_areAlike 5 RX5 (some .boolean) D T) (a0 : Nat) (x1 : Int32) (x2 : Int32) (x3 : Int32) (x4 : Int32) (h0 : kd a0 = 5) (kx : Int32 → Me → Option (Int32 × Me)) (hkx : ∀ (x4 : Int32) (M : Me), GN p l e (k2_rm 0 0) s m args below meth c D T b 5 eI 38 [] [] M (kx x4 M)) (M : Me) : GN p l e (k2_rm 0 0) s m args below meth c D T b 5 eI 3 [(0, .ref (b + a0)), (1, .int x1), (2, .int x2), (3, .int x3), (4, .int x4)] [] M (l_X5_areAlike_3 kx a0 x1 x2 x3 x4 M) := by
  exact n_loop (σ := Int32 × Me) (fun z => [(0, .ref (b + a0)), (1, .int x1), (2, .int x2), (3, .int x3), (4, .int z.1)]) (fun z => z.2) (fun kb hkb z => b_X5_areAlike_3_g hC a0 x1 x2 x3 z.1 h0 kx hkx kb hkb z.2) FU (x4, M)
def f_X5_areAlike (M : Me) (a0 : Nat) (x1 : Int32) (x2 : Int32) (x3 : Int32) : Option (Int32 × Me) := l_X5_areAlike_3 (fun v4 M5 => chZ (1 : Int32) (some ((1 : Int32), M5))) a0 x1 x2 x3 (0 : Int32) M
set_option maxHeartbeats 4000000 in
set_option maxRecDepth 100000 in
theorem c_X5_areAlike (l : Launch) (M : Me) (a0 : Nat) (x1 : Int32) (x2 : Int32) (x3 : Int32) (h0 : kd a0 = 5) : CN l yX5_areAlike cX5_areAlike 5 (some .boolean) (k2_rm 0 0) eI (fun b => [.ref (b + a0), .int x1, .int x2, .int x3]) M (f_X5_areAlike M a0 x1 x2 x3) := by
  refine CN.of RX5 (fun b => [(0, .ref (b + a0)), (1, .int x1), (2, .int x2), (3, .int x3)]) (by decide) rfl (fun b => Nat.le_of_ble_eq_true rfl) (fun b => rfl) ?_
  intro p e s m args below meth c D T b hC
  unfold f_X5_areAlike
  refine n_iconst hC (0 : Int32) (by decide) dX5_areAlike_0 ?_
  refine n_istore hC [(4, .int (0 : Int32)), (0, .ref (b + a0)), (1, .int x1), (2, .int x2), (3, .int x3)] (by decide) rfl dX5_areAlike_1 ?_
  refine GN.sub [1, 2, 3, 4, 0] rfl (b_X5_areAlike_3 hC a0 x1 x2 x3 (0 : Int32) h0 _ (fun v4 M5 => ?_) M)
  refine n_iconst hC (1 : Int32) (by decide) dX5_areAlike_38 ?_
  exact n_zret hC dX5_areAlike_39
def f_X5_layRow (M : Me) (a0 : Nat) (x1 : Int32) : Option (Unit × Me) := cal (f_X5_two M a0 (x1 + (28 : Int32))) (fun r1 M2 => bnd (sI M2 a0 35 r1) (fun M3 => cal (f_X5_two M3 a0 (x1 + (30 : Int32))) (fun r4 M5 => bnd (sI M5 a0 36 r4) (fun M6 => bnd (sI M6 a0 34 (x1 + (46 : Int32))) (fun M7 => cal (f_X5_four M7 a0 (x1 + (20 : Int32))) (fun r8 M9 => bnd (sL M9 a0 39 r8) (fun M10 => cal (f_X5_four M10 a0 (x1 + (24 : Int32))) (fun r11 M12 => bnd (sL M12 a0 40 r11) (fun M13 => cal (f_X5_four M13 a0 (x1 + (42 : Int32))) (fun r14 M15 => bnd (sL M15 a0 41 r14) (fun M16 => some ((), M16))))))))))))
set_option maxHeartbeats 4000000 in
set_option maxRecDepth 100000 in
theorem c_X5_layRow (l : Launch) (M : Me) (a0 : Nat) (x1 : Int32) (h0 : kd a0 = 5) : CN l yX5_layRow cX5_layRow 2 none (k2_rm 2 42) eV (fun b => [.ref (b + a0), .int x1]) M (f_X5_layRow M a0 x1) := by
  refine CN.of RX5 (fun b => [(0, .ref (b + a0)), (1, .int x1)]) (by decide) rfl (fun b => Nat.le_of_ble_eq_true rfl) (fun b => rfl) ?_
  intro p e s m args below meth c D T b hC
  unfold f_X5_layRow
  refine n_aload_n hC 0 rfl dX5_layRow_0 ?_
  refine n_aload_n hC 0 rfl dX5_layRow_1 ?_
  refine n_iload_n hC 1 rfl dX5_layRow_2 ?_
  refine n_bipush hC (28 : Int32) (by decide) dX5_layRow_3 ?_
  refine n_iadd hC dX5_layRow_5 ?_
  refine n_callVi (As := [.int (x1 + (28 : Int32))]) (rest := [.ref (b + a0)]) h0 rfl (by decide) hC (c_X5_two l M a0 (x1 + (28 : Int32)) h0) my_X5_two ml_X5_193 rfl rfl rfl (Nat.le_of_ble_eq_true rfl) ⟨by decide, by decide⟩ dX5_layRow_6 (fun r1 M2 => ?_)
  refine n_putI hC clX5 h0 35 (by decide) rfl rfl rfl fl_X5_229 dX5_layRow_9 (fun M3 => ?_)
  refine n_aload_n hC 0 rfl dX5_layRow_12 ?_
  refine n_aload_n hC 0 rfl dX5_layRow_13 ?_
  refine n_iload_n hC 1 rfl dX5_layRow_14 ?_
  refine n_bipush hC (30 : Int32) (by decide) dX5_layRow_15 ?_
  refine n_iadd hC dX5_layRow_17 ?_
  refine n_callVi (As := [.int (x1 + (30 : Int32))]) (rest := [.ref (b + a0)]) h0 rfl (by decide) hC (c_X5_two l M3 a0 (x1 + (30 : Int32)) h0) my_X5_two ml_X5_193 rfl rfl rfl (Nat.le_of_ble_eq_true rfl) ⟨by decide, by decide⟩ dX5_layRow_18 (fun r4 M5 => ?_)
  refine n_putI hC clX5 h0 36 (by decide) rfl rfl rfl fl_X5_232 dX5_layRow_21 (fun M6 => ?_)
  refine n_aload_n hC 0 rfl dX5_layRow_24 ?_
  refine n_iload_n hC 1 rfl dX5_layRow_25 ?_
  refine n_bipush hC (46 : Int32) (by decide) dX5_layRow_26 ?_
  refine n_iadd hC dX5_layRow_28 ?_
  refine n_putI hC clX5 h0 34 (by decide) rfl rfl rfl fl_X5_226 dX5_layRow_29 (fun M7 => ?_)
  refine n_aload_n hC 0 rfl dX5_layRow_32 ?_
  refine n_aload_n hC 0 rfl dX5_layRow_33 ?_
  refine n_iload_n hC 1 rfl dX5_layRow_34 ?_
  refine n_bipush hC (20 : Int32) (by decide) dX5_layRow_35 ?_
  refine n_iadd hC dX5_layRow_37 ?_
  refine n_callVl (As := [.int (x1 + (20 : Int32))]) (rest := [.ref (b + a0)]) h0 rfl (by decide) hC (c_X5_four l M7 a0 (x1 + (20 : Int32)) h0) my_X5_four ml_X5_196 rfl rfl rfl (Nat.le_of_ble_eq_true rfl) ⟨by decide, by decide⟩ dX5_layRow_38 (fun r8 M9 => ?_)
  refine n_putL hC clX5 h0 39 (by decide) rfl rfl rfl fl_X5_235 dX5_layRow_41 (fun M10 => ?_)
  refine n_aload_n hC 0 rfl dX5_layRow_44 ?_
  refine n_aload_n hC 0 rfl dX5_layRow_45 ?_
  refine n_iload_n hC 1 rfl dX5_layRow_46 ?_
  refine n_bipush hC (24 : Int32) (by decide) dX5_layRow_47 ?_
  refine n_iadd hC dX5_layRow_49 ?_
  refine n_callVl (As := [.int (x1 + (24 : Int32))]) (rest := [.ref (b + a0)]) h0 rfl (by decide) hC (c_X5_four l M10 a0 (x1 + (24 : Int32)) h0) my_X5_four ml_X5_196 rfl rfl rfl (Nat.le_of_ble_eq_true rfl) ⟨by decide, by decide⟩ dX5_layRow_50 (fun r11 M12 => ?_)
  refine n_putL hC clX5 h0 40 (by decide) rfl rfl rfl fl_X5_239 dX5_layRow_53 (fun M13 => ?_)
  refine n_aload_n hC 0 rfl dX5_layRow_56 ?_
  refine n_aload_n hC 0 rfl dX5_layRow_57 ?_
  refine n_iload_n hC 1 rfl dX5_layRow_58 ?_
  refine n_bipush hC (42 : Int32) (by decide) dX5_layRow_59 ?_
  refine n_iadd hC dX5_layRow_61 ?_
  refine n_callVl (As := [.int (x1 + (42 : Int32))]) (rest := [.ref (b + a0)]) h0 rfl (by decide) hC (c_X5_four l M13 a0 (x1 + (42 : Int32)) h0) my_X5_four ml_X5_196 rfl rfl rfl (Nat.le_of_ble_eq_true rfl) ⟨by decide, by decide⟩ dX5_layRow_62 (fun r14 M15 => ?_)
  refine n_putL hC clX5 h0 41 (by decide) rfl rfl rfl fl_X5_242 dX5_layRow_65 (fun M16 => ?_)
  exact n_vret hC dX5_layRow_68
def j_X5_checkLocal_240 (kx : Int32 → Int32 → Me → Option (Unit × Me)) (kb : Int32 × Int32 × Me → Option (Unit × Me)) (a0 : Nat) (x1 : Int32) (x2 : Int32) (x3 : Int32) (x5 : Int32) (x6 : Int32) (x7 : Int32) (s0 : Int32) (M : Me) : Option (Unit × Me) := bndV (x7 + (1 : Int32)) (fun v5 => kb (s0, v5, M))
set_option maxHeartbeats 4000000 in
set_option maxRecDepth 100000 in
theorem b_X5_checkLocal_240 {p : Program} {l : Launch} {e : Env} {s : State} {m : MethodId} {args : Array Value} {below : List Frame} {meth : Method} {c : Code} {D : va_G} {T : Nat → ClassId} {b : Nat} (hC : CX p s m args meth c cX5_checkLocal 10 RX5 none D T) (a0 : Nat) (x1 : Int32) (x2 : Int32) (x3 : Int32) (x5 : Int32) (x6 : Int32) (x7 : Int32) (s0 : Int32) (h0 : kd a0 = 5) (kx : Int32 → Int32 → Me → Option (Unit × Me)) (hkx : ∀ (x6 : Int32) (x7 : Int32) (M : Me), GN p l e (k2_rm 2 42) s m args below meth c D T b 10 eV 248 [(0, .ref (b + a0)), (1, .int x1), (2, .int x2), (3, .int x3), (5, .int x5), (6, .int x6)] [] M (kx x6 x7 M)) (kb : Int32 × Int32 × Me → Option (Unit × Me)) (hkb : ∀ z : Int32 × Int32 × Me, GN p l e (k2_rm 2 42) s m args below meth c D T b 10 eV 185 [(0, .ref (b + a0)), (1, .int x1), (2, .int x2), (3, .int x3), (5, .int x5), (6, .int z.1), (7, .int z.2.1)] [] z.2.2 (kb z)) (M : Me) : GN p l e (k2_rm 2 42) s m args below meth c D T b 10 eV 240 [(0, .ref (b + a0)), (1, .int x1), (2, .int x2), (3, .int x3), (5, .int x5), (6, .int x6), (7, .int x7)] [.int s0] M (j_X5_checkLocal_240 kx kb a0 x1 x2 x3 x5 x6 x7 s0 M) := by
  unfold j_X5_checkLocal_240
  refine n_istore hC [(6, .int s0), (0, .ref (b + a0)), (1, .int x1), (2, .int x2), (3, .int x3), (5, .int x5), (7, .int x7)] (by decide) rfl dX5_checkLocal_240 ?_
  refine n_iincB hC (1 : Int32) (by decide) (fun v5 => [(7, .int v5), (6, .int s0), (0, .ref (b + a0)), (1, .int x1), (2, .int x2), (3, .int x3), (5, .int x5)]) 6 rfl (by decide) (fun _ => rfl) dX5_checkLocal_242 (fun v5 => ?_)
  refine n_goto hC (tgt := 185) (by decide) dX5_checkLocal_245 ?_
  exact GN.sub [2, 3, 4, 5, 6, 1, 0] rfl (hkb (s0, v5, M))
def j_X5_checkLocal_239 (kx : Int32 → Int32 → Me → Option (Unit × Me)) (kb : Int32 × Int32 × Me → Option (Unit × Me)) (a0 : Nat) (x1 : Int32) (x2 : Int32) (x3 : Int32) (x5 : Int32) (x6 : Int32) (x7 : Int32) (M : Me) : Option (Unit × Me) := j_X5_checkLocal_240 kx kb a0 x1 x2 x3 x5 x6 x7 (0 : Int32) M
set_option maxHeartbeats 4000000 in
set_option maxRecDepth 100000 in
theorem b_X5_checkLocal_239 {p : Program} {l : Launch} {e : Env} {s : State} {m : MethodId} {args : Array Value} {below : List Frame} {meth : Method} {c : Code} {D : va_G} {T : Nat → ClassId} {b : Nat} (hC : CX p s m args meth c cX5_checkLocal 10 RX5 none D T) (a0 : Nat) (x1 : Int32) (x2 : Int32) (x3 : Int32) (x5 : Int32) (x6 : Int32) (x7 : Int32) (h0 : kd a0 = 5) (kx : Int32 → Int32 → Me → Option (Unit × Me)) (hkx : ∀ (x6 : Int32) (x7 : Int32) (M : Me), GN p l e (k2_rm 2 42) s m args below meth c D T b 10 eV 248 [(0, .ref (b + a0)), (1, .int x1), (2, .int x2), (3, .int x3), (5, .int x5), (6, .int x6)] [] M (kx x6 x7 M)) (kb : Int32 × Int32 × Me → Option (Unit × Me)) (hkb : ∀ z : Int32 × Int32 × Me, GN p l e (k2_rm 2 42) s m args below meth c D T b 10 eV 185 [(0, .ref (b + a0)), (1, .int x1), (2, .int x2), (3, .int x3), (5, .int x5), (6, .int z.1), (7, .int z.2.1)] [] z.2.2 (kb z)) (M : Me) : GN p l e (k2_rm 2 42) s m args below meth c D T b 10 eV 239 [(0, .ref (b + a0)), (1, .int x1), (2, .int x2), (3, .int x3), (5, .int x5), (6, .int x6), (7, .int x7)] [] M (j_X5_checkLocal_239 kx kb a0 x1 x2 x3 x5 x6 x7 M) := by
  unfold j_X5_checkLocal_239
  refine n_iconst hC (0 : Int32) (by decide) dX5_checkLocal_239 ?_
  exact GN.sub [0, 1, 2, 3, 4, 5, 6] rfl (b_X5_checkLocal_240 hC a0 x1 x2 x3 x5 x6 x7 (0 : Int32) h0 kx hkx kb hkb M)
def j_X5_checkLocal_232 (kx : Int32 → Int32 → Me → Option (Unit × Me)) (kb : Int32 × Int32 × Me → Option (Unit × Me)) (a0 : Nat) (x1 : Int32) (x2 : Int32) (x3 : Int32) (x5 : Int32) (x6 : Int32) (x7 : Int32) (s0 : Int32) (s1 : Int32) (M : Me) : Option (Unit × Me) := if s1 = s0 then j_X5_checkLocal_240 kx kb a0 x1 x2 x3 x5 x6 x7 (1 : Int32) M else j_X5_checkLocal_239 kx kb a0 x1 x2 x3 x5 x6 x7 M
set_option maxHeartbeats 4000000 in
set_option maxRecDepth 100000 in
theorem b_X5_checkLocal_232 {p : Program} {l : Launch} {e : Env} {s : State} {m : MethodId} {args : Array Value} {below : List Frame} {meth : Method} {c : Code} {D : va_G} {T : Nat → ClassId} {b : Nat} (hC : CX p s m args meth c cX5_checkLocal 10 RX5 none D T) (a0 : Nat) (x1 : Int32) (x2 : Int32) (x3 : Int32) (x5 : Int32) (x6 : Int32) (x7 : Int32) (s0 : Int32) (s1 : Int32) (h0 : kd a0 = 5) (kx : Int32 → Int32 → Me → Option (Unit × Me)) (hkx : ∀ (x6 : Int32) (x7 : Int32) (M : Me), GN p l e (k2_rm 2 42) s m args below meth c D T b 10 eV 248 [(0, .ref (b + a0)), (1, .int x1), (2, .int x2), (3, .int x3), (5, .int x5), (6, .int x6)] [] M (kx x6 x7 M)) (kb : Int32 × Int32 × Me → Option (Unit × Me)) (hkb : ∀ z : Int32 × Int32 × Me, GN p l e (k2_rm 2 42) s m args below meth c D T b 10 eV 185 [(0, .ref (b + a0)), (1, .int x1), (2, .int x2), (3, .int x3), (5, .int x5), (6, .int z.1), (7, .int z.2.1)] [] z.2.2 (kb z)) (M : Me) : GN p l e (k2_rm 2 42) s m args below meth c D T b 10 eV 232 [(0, .ref (b + a0)), (1, .int x1), (2, .int x2), (3, .int x3), (5, .int x5), (6, .int x6), (7, .int x7)] [.int s0, .int s1] M (j_X5_checkLocal_232 kx kb a0 x1 x2 x3 x5 x6 x7 s0 s1 M) := by
  unfold j_X5_checkLocal_232
  refine n_icmp_ne hC 239 dX5_checkLocal_232 (by decide) ?_ ?_
  · exact GN.sub [0, 1, 2, 3, 4, 5, 6] rfl (b_X5_checkLocal_239 hC a0 x1 x2 x3 x5 x6 x7 h0 kx hkx kb hkb M)
  refine n_iconst hC (1 : Int32) (by decide) dX5_checkLocal_235 ?_
  refine n_goto hC (tgt := 240) (by decide) dX5_checkLocal_236 ?_
  exact GN.sub [0, 1, 2, 3, 4, 5, 6] rfl (b_X5_checkLocal_240 hC a0 x1 x2 x3 x5 x6 x7 (1 : Int32) h0 kx hkx kb hkb M)
def g_X5_checkLocal_185 (kx : Int32 → Int32 → Me → Option (Unit × Me)) (kb : Int32 × Int32 × Me → Option (Unit × Me)) (a0 : Nat) (x1 : Int32) (x2 : Int32) (x3 : Int32) (x5 : Int32) (x6 : Int32) (x7 : Int32) (M : Me) : Option (Unit × Me) := if (12 : Int32) ≤ x7 then kx x6 x7 M else if x6 = (0 : Int32) then j_X5_checkLocal_239 kx kb a0 x1 x2 x3 x5 x6 x7 M else chk ((x5 + (14 : Int32)) + x7) (ln (rf a0 23)) (if x3 = (8 : Int32) then j_X5_checkLocal_232 kx kb a0 x1 x2 x3 x5 x6 x7 (0 : Int32) (M.1 (rf a0 23) ((x5 + (14 : Int32)) + x7).toNatClampNeg) M else chk ((x2 + (16 : Int32)) + x7) (ln (rf a0 23)) (j_X5_checkLocal_232 kx kb a0 x1 x2 x3 x5 x6 x7 (M.1 (rf a0 23) ((x2 + (16 : Int32)) + x7).toNatClampNeg) (M.1 (rf a0 23) ((x5 + (14 : Int32)) + x7).toNatClampNeg) M))
set_option maxHeartbeats 4000000 in
set_option maxRecDepth 100000 in
theorem b_X5_checkLocal_185_g {p : Program} {l : Launch} {e : Env} {s : State} {m : MethodId} {args : Array Value} {below : List Frame} {meth : Method} {c : Code} {D : va_G} {T : Nat → ClassId} {b : Nat} (hC : CX p s m args meth c cX5_checkLocal 10 RX5 none D T) (a0 : Nat) (x1 : Int32) (x2 : Int32) (x3 : Int32) (x5 : Int32) (x6 : Int32) (x7 : Int32) (h0 : kd a0 = 5) (kx : Int32 → Int32 → Me → Option (Unit × Me)) (hkx : ∀ (x6 : Int32) (x7 : Int32) (M : Me), GN p l e (k2_rm 2 42) s m args below meth c D T b 10 eV 248 [(0, .ref (b + a0)), (1, .int x1), (2, .int x2), (3, .int x3), (5, .int x5), (6, .int x6)] [] M (kx x6 x7 M)) (kb : Int32 × Int32 × Me → Option (Unit × Me)) (hkb : ∀ z : Int32 × Int32 × Me, GN p l e (k2_rm 2 42) s m args below meth c D T b 10 eV 185 [(0, .ref (b + a0)), (1, .int x1), (2, .int x2), (3, .int x3), (5, .int x5), (6, .int z.1), (7, .int z.2.1)] [] z.2.2 (kb z)) (M : Me) : GN p l e (k2_rm 2 42) s m args below meth c D T b 10 eV 185 [(0, .ref (b + a0)), (1, .int x1), (2, .int x2), (3, .int x3), (5, .int x5), (6, .int x6), (7, .int x7)] [] M (g_X5_checkLocal_185 kx kb a0 x1 x2 x3 x5 x6 x7 M) := by
  unfold g_X5_checkLocal_185
  refine n_iload hC 6 rfl dX5_checkLocal_185 ?_
  refine n_bipush hC (12 : Int32) (by decide) dX5_checkLocal_187 ?_
  refine n_icmp_ge hC 248 dX5_checkLocal_189 (by decide) ?_ ?_
  · exact GN.sub [0, 1, 2, 3, 4, 5] rfl (hkx x6 x7 M)
  refine n_iload hC 5 rfl dX5_checkLocal_192 ?_
  refine n_if_eq hC 239 dX5_checkLocal_194 (by decide) ?_ ?_
  · exact GN.sub [0, 1, 2, 3, 4, 5, 6] rfl (b_X5_checkLocal_239 hC a0 x1 x2 x3 x5 x6 x7 h0 kx hkx kb hkb M)
  refine n_aload_n hC 0 rfl dX5_checkLocal_197 ?_
  refine n_get hC clX5 h0 23 (.ref (b + (rf a0 23))) (by decide) rfl fl_X5_128 rfl dX5_checkLocal_198 ?_
  refine n_iload hC 4 rfl dX5_checkLocal_201 ?_
  refine n_bipush hC (14 : Int32) (by decide) dX5_checkLocal_203 ?_
  refine n_iadd hC dX5_checkLocal_205 ?_
  refine n_iload hC 6 rfl dX5_checkLocal_206 ?_
  refine n_iadd hC dX5_checkLocal_208 ?_
  refine n_iald hC (kf_X5_23 h0) dX5_checkLocal_209 (fun g6 => ?_)
  refine n_iload_n hC 3 rfl dX5_checkLocal_210 ?_
  refine n_bipush hC (8 : Int32) (by decide) dX5_checkLocal_211 ?_
  refine n_icmp_ne hC 220 dX5_checkLocal_213 (by decide) ?_ ?_
  · refine n_aload_n hC 0 rfl dX5_checkLocal_220 ?_
    refine n_get hC clX5 h0 23 (.ref (b + (rf a0 23))) (by decide) rfl fl_X5_128 rfl dX5_checkLocal_221 ?_
    refine n_iload_n hC 2 rfl dX5_checkLocal_224 ?_
    refine n_bipush hC (16 : Int32) (by decide) dX5_checkLocal_225 ?_
    refine n_iadd hC dX5_checkLocal_227 ?_
    refine n_iload hC 6 rfl dX5_checkLocal_228 ?_
    refine n_iadd hC dX5_checkLocal_230 ?_
    refine n_iald hC (kf_X5_23 h0) dX5_checkLocal_231 (fun g7 => ?_)
    exact GN.sub [0, 1, 2, 3, 4, 5, 6] rfl (b_X5_checkLocal_232 hC a0 x1 x2 x3 x5 x6 x7 (M.1 (rf a0 23) ((x2 + (16 : Int32)) + x7).toNatClampNeg) (M.1 (rf a0 23) ((x5 + (14 : Int32)) + x7).toNatClampNeg) h0 kx hkx kb hkb M)
  refine n_iconst hC (0 : Int32) (by decide) dX5_checkLocal_216 ?_
  refine n_goto hC (tgt := 232) (by decide) dX5_checkLocal_217 ?_
  exact GN.sub [0, 1, 2, 3, 4, 5, 6] rfl (b_X5_checkLocal_232 hC a0 x1 x2 x3 x5 x6 x7 (0 : Int32) (M.1 (rf a0 23) ((x5 + (14 : Int32)) + x7).toNatClampNeg) h0 kx hkx kb hkb M)
def l_X5_checkLocal_185 (kx : Int32 → Int32 → Me → Option (Unit × Me)) (a0 : Nat) (x1 : Int32) (x2 : Int32) (x3 : Int32) (x5 : Int32) (x6 : Int32) (x7 : Int32) (M : Me) : Option (Unit × Me) := lp (fun kb z => g_X5_checkLocal_185 kx kb a0 x1 x2 x3 x5 z.1 z.2.1 z.2.2) FU (x6, x7, M)
set_option maxHeartbeats 4000000 in
set_option maxRecDepth 100000 in
theorem b_X5_checkLocal_185 {p : Program} {l : Launch} {e : Env} {s : State} {m : MethodId} {args : Array Value} {below : List Frame} {meth : Method} {c : Code} {D : va_G} {T : Nat → ClassId} {b : Nat} (hC : CX p s m args meth c cX5_checkLocal 10 RX5 none D T) (a0 : Nat) (x1 : Int32) (x2 : Int32) (x3 : Int32) (x5 : Int32) (x6 : Int32) (x7 : Int32) (h0 : kd a0 = 5) (kx : Int32 → Int32 → Me → Option (Unit × Me)) (hkx : ∀ (x6 : Int32) (x7 : Int32) (M : Me), GN p l e (k2_rm 2 42) s m args below meth c D T b 10 eV 248 [(0, .ref (b + a0)), (1, .int x1), (2, .int x2), (3, .int x3), (5, .int x5), (6, .int x6)] [] M (kx x6 x7 M)) (M : Me) : GN p l e (k2_rm 2 42) s m args below meth c D T b 10 eV 185 [(0, .ref (b + a0)), (1, .int x1), (2, .int x2), (3, .int x3), (5, .int x5), (6, .int x6), (7, .int x7)] [] M (l_X5_checkLocal_185 kx a0 x1 x2 x3 x5 x6 x7 M) := by
  exact n_loop (σ := Int32 × Int32 × Me) (fun z => [(0, .ref (b + a0)), (1, .int x1), (2, .int x2), (3, .int x3), (5, .int x5), (6, .int z.1), (7, .int z.2.1)]) (fun z => z.2.2) (fun kb hkb z => b_X5_checkLocal_185_g hC a0 x1 x2 x3 x5 z.1 z.2.1 h0 kx hkx kb hkb z.2.2) FU (x6, x7, M)
def j_X5_checkLocal_422 (kx : Int32 → Me → Option (Unit × Me)) (kb : Int32 × Me → Option (Unit × Me)) (a0 : Nat) (x1 : Int32) (x2 : Int32) (x5 : Int32) (x8 : Int32) (x9 : Int32) (s0 : Int32) (s1 : Nat) (M : Me) : Option (Unit × Me) := cal (f_X5_want M s1 s0 (9 : Int32) x5.toInt64) (fun r18 M19 => bndV (x9 + (1 : Int32)) (fun v20 => kb (v20, M19)))
set_option maxHeartbeats 4000000 in
set_option maxRecDepth 100000 in
theorem b_X5_checkLocal_422 {p : Program} {l : Launch} {e : Env} {s : State} {m : MethodId} {args : Array Value} {below : List Frame} {meth : Method} {c : Code} {D : va_G} {T : Nat → ClassId} {b : Nat} (hC : CX p s m args meth c cX5_checkLocal 10 RX5 none D T) (a0 : Nat) (x1 : Int32) (x2 : Int32) (x5 : Int32) (x8 : Int32) (x9 : Int32) (s0 : Int32) (s1 : Nat) (h0 : kd a0 = 5) (hs1 : kd s1 = 5) (kx : Int32 → Me → Option (Unit × Me)) (hkx : ∀ (x9 : Int32) (M : Me), GN p l e (k2_rm 2 42) s m args below meth c D T b 10 eV 437 [(0, .ref (b + a0)), (1, .int x1), (2, .int x2), (5, .int x5), (8, .int x8)] [] M (kx x9 M)) (kb : Int32 × Me → Option (Unit × Me)) (hkb : ∀ z : Int32 × Me, GN p l e (k2_rm 2 42) s m args below meth c D T b 10 eV 386 [(0, .ref (b + a0)), (1, .int x1), (2, .int x2), (5, .int x5), (8, .int x8), (9, .int z.1)] [] z.2 (kb z)) (M : Me) : GN p l e (k2_rm 2 42) s m args below meth c D T b 10 eV 422 [(0, .ref (b + a0)), (1, .int x1), (2, .int x2), (5, .int x5), (8, .int x8), (9, .int x9)] [.int s0, .ref (b + s1)] M (j_X5_checkLocal_422 kx kb a0 x1 x2 x5 x8 x9 s0 s1 M) := by
  unfold j_X5_checkLocal_422
  refine n_bipush hC (9 : Int32) (by decide) dX5_checkLocal_422 ?_
  refine n_iload hC 3 rfl dX5_checkLocal_424 ?_
  refine n_i2l hC dX5_checkLocal_426 ?_
  refine n_callVi (As := [.int s0, .int (9 : Int32), .long x5.toInt64]) (rest := []) hs1 rfl (by decide) hC (c_X5_want l M s1 s0 (9 : Int32) x5.toInt64 hs1) my_X5_want ml_X5_200 rfl rfl rfl (Nat.le_of_ble_eq_true rfl) ⟨by decide, by decide⟩ dX5_checkLocal_427 (fun r18 M19 => ?_)
  refine n_pop hC rfl dX5_checkLocal_430 ?_
  refine n_iincB hC (1 : Int32) (by decide) (fun v20 => [(9, .int v20), (0, .ref (b + a0)), (1, .int x1), (2, .int x2), (5, .int x5), (8, .int x8)]) 5 rfl (by decide) (fun _ => rfl) dX5_checkLocal_431 (fun v20 => ?_)
  refine n_goto hC (tgt := 386) (by decide) dX5_checkLocal_434 ?_
  exact GN.sub [1, 2, 3, 4, 5, 0] rfl (hkb (v20, M19))
def j_X5_checkLocal_417 (kx : Int32 → Me → Option (Unit × Me)) (kb : Int32 × Me → Option (Unit × Me)) (a0 : Nat) (x1 : Int32) (x2 : Int32) (x5 : Int32) (x8 : Int32) (x9 : Int32) (s0 : Nat) (M : Me) : Option (Unit × Me) := j_X5_checkLocal_422 kx kb a0 x1 x2 x5 x8 x9 (1 : Int32) s0 M
set_option maxHeartbeats 4000000 in
set_option maxRecDepth 100000 in
theorem b_X5_checkLocal_417 {p : Program} {l : Launch} {e : Env} {s : State} {m : MethodId} {args : Array Value} {below : List Frame} {meth : Method} {c : Code} {D : va_G} {T : Nat → ClassId} {b : Nat} (hC : CX p s m args meth c cX5_checkLocal 10 RX5 none D T) (a0 : Nat) (x1 : Int32) (x2 : Int32) (x5 : Int32) (x8 : Int32) (x9 : Int32) (s0 : Nat) (h0 : kd a0 = 5) (hs0 : kd s0 = 5) (kx : Int32 → Me → Option (Unit × Me)) (hkx : ∀ (x9 : Int32) (M : Me), GN p l e (k2_rm 2 42) s m args below meth c D T b 10 eV 437 [(0, .ref (b + a0)), (1, .int x1), (2, .int x2), (5, .int x5), (8, .int x8)] [] M (kx x9 M)) (kb : Int32 × Me → Option (Unit × Me)) (hkb : ∀ z : Int32 × Me, GN p l e (k2_rm 2 42) s m args below meth c D T b 10 eV 386 [(0, .ref (b + a0)), (1, .int x1), (2, .int x2), (5, .int x5), (8, .int x8), (9, .int z.1)] [] z.2 (kb z)) (M : Me) : GN p l e (k2_rm 2 42) s m args below meth c D T b 10 eV 417 [(0, .ref (b + a0)), (1, .int x1), (2, .int x2), (5, .int x5), (8, .int x8), (9, .int x9)] [.ref (b + s0)] M (j_X5_checkLocal_417 kx kb a0 x1 x2 x5 x8 x9 s0 M) := by
  unfold j_X5_checkLocal_417
  refine n_iconst hC (1 : Int32) (by decide) dX5_checkLocal_417 ?_
  refine n_goto hC (tgt := 422) (by decide) dX5_checkLocal_418 ?_
  exact GN.sub [0, 1, 2, 3, 4, 5] rfl (b_X5_checkLocal_422 hC a0 x1 x2 x5 x8 x9 (1 : Int32) s0 h0 hs0 kx hkx kb hkb M)
def g_X5_checkLocal_386 (kx : Int32 → Me → Option (Unit × Me)) (kb : Int32 × Me → Option (Unit × Me)) (a0 : Nat) (x1 : Int32) (x2 : Int32) (x5 : Int32) (x8 : Int32) (x9 : Int32) (M : Me) : Option (Unit × Me) := if x1 ≤ x9 then kx x9 M else chk x9 (ln (rf a0 42)) (if x8 ≤ (M.1 (rf a0 42) x9.toNatClampNeg) then j_X5_checkLocal_417 kx kb a0 x1 x2 x5 x8 x9 a0 M else chk x9 (ln (rf a0 43)) (if x5 < (M.1 (rf a0 43) x9.toNatClampNeg) then j_X5_checkLocal_422 kx kb a0 x1 x2 x5 x8 x9 (0 : Int32) a0 M else j_X5_checkLocal_417 kx kb a0 x1 x2 x5 x8 x9 a0 M))
set_option maxHeartbeats 4000000 in
set_option maxRecDepth 100000 in
theorem b_X5_checkLocal_386_g {p : Program} {l : Launch} {e : Env} {s : State} {m : MethodId} {args : Array Value} {below : List Frame} {meth : Method} {c : Code} {D : va_G} {T : Nat → ClassId} {b : Nat} (hC : CX p s m args meth c cX5_checkLocal 10 RX5 none D T) (a0 : Nat) (x1 : Int32) (x2 : Int32) (x5 : Int32) (x8 : Int32) (x9 : Int32) (h0 : kd a0 = 5) (kx : Int32 → Me → Option (Unit × Me)) (hkx : ∀ (x9 : Int32) (M : Me), GN p l e (k2_rm 2 42) s m args below meth c D T b 10 eV 437 [(0, .ref (b + a0)), (1, .int x1), (2, .int x2), (5, .int x5), (8, .int x8)] [] M (kx x9 M)) (kb : Int32 × Me → Option (Unit × Me)) (hkb : ∀ z : Int32 × Me, GN p l e (k2_rm 2 42) s m args below meth c D T b 10 eV 386 [(0, .ref (b + a0)), (1, .int x1), (2, .int x2), (5, .int x5), (8, .int x8), (9, .int z.1)] [] z.2 (kb z)) (M : Me) : GN p l e (k2_rm 2 42) s m args below meth c D T b 10 eV 386 [(0, .ref (b + a0)), (1, .int x1), (2, .int x2), (5, .int x5), (8, .int x8), (9, .int x9)] [] M (g_X5_checkLocal_386 kx kb a0 x1 x2 x5 x8 x9 M) := by
  unfold g_X5_checkLocal_386
  refine n_iload hC 5 rfl dX5_checkLocal_386 ?_
  refine n_iload_n hC 1 rfl dX5_checkLocal_388 ?_
  refine n_icmp_ge hC 437 dX5_checkLocal_389 (by decide) ?_ ?_
  · exact GN.sub [0, 1, 2, 3, 4] rfl (hkx x9 M)
  refine n_aload_n hC 0 rfl dX5_checkLocal_392 ?_
  refine n_iload hC 4 rfl dX5_checkLocal_393 ?_
  refine n_aload_n hC 0 rfl dX5_checkLocal_395 ?_
  refine n_get hC clX5 h0 42 (.ref (b + (rf a0 42))) (by decide) rfl fl_X5_267 rfl dX5_checkLocal_396 ?_
  refine n_iload hC 5 rfl dX5_checkLocal_399 ?_
  refine n_iald hC (kf_X5_42 h0) dX5_checkLocal_401 (fun g17 => ?_)
  refine n_icmp_le hC 417 dX5_checkLocal_402 (by decide) ?_ ?_
  · exact GN.sub [0, 1, 2, 3, 4, 5] rfl (b_X5_checkLocal_417 hC a0 x1 x2 x5 x8 x9 a0 h0 h0 kx hkx kb hkb M)
  refine n_iload hC 3 rfl dX5_checkLocal_405 ?_
  refine n_aload_n hC 0 rfl dX5_checkLocal_407 ?_
  refine n_get hC clX5 h0 43 (.ref (b + (rf a0 43))) (by decide) rfl fl_X5_270 rfl dX5_checkLocal_408 ?_
  refine n_iload hC 5 rfl dX5_checkLocal_411 ?_
  refine n_iald hC (kf_X5_43 h0) dX5_checkLocal_413 (fun g21 => ?_)
  refine n_icmp_lt hC 421 dX5_checkLocal_414 (by decide) ?_ ?_
  · refine n_iconst hC (0 : Int32) (by decide) dX5_checkLocal_421 ?_
    exact GN.sub [0, 1, 2, 3, 4, 5] rfl (b_X5_checkLocal_422 hC a0 x1 x2 x5 x8 x9 (0 : Int32) a0 h0 h0 kx hkx kb hkb M)
  exact GN.sub [0, 1, 2, 3, 4, 5] rfl (b_X5_checkLocal_417 hC a0 x1 x2 x5 x8 x9 a0 h0 h0 kx hkx kb hkb M)
def l_X5_checkLocal_386 (kx : Int32 → Me → Option (Unit × Me)) (a0 : Nat) (x1 : Int32) (x2 : Int32) (x5 : Int32) (x8 : Int32) (x9 : Int32) (M : Me) : Option (Unit × Me) := lp (fun kb z => g_X5_checkLocal_386 kx kb a0 x1 x2 x5 x8 z.1 z.2) FU (x9, M)
set_option maxHeartbeats 4000000 in
set_option maxRecDepth 100000 in
theorem b_X5_checkLocal_386 {p : Program} {l : Launch} {e : Env} {s : State} {m : MethodId} {args : Array Value} {below : List Frame} {meth : Method} {c : Code} {D : va_G} {T : Nat → ClassId} {b : Nat} (hC : CX p s m args meth c cX5_checkLocal 10 RX5 none D T) (a0 : Nat) (x1 : Int32) (x2 : Int32) (x5 : Int32) (x8 : Int32) (x9 : Int32) (h0 : kd a0 = 5) (kx : Int32 → Me → Option (Unit × Me)) (hkx : ∀ (x9 : Int32) (M : Me), GN p l e (k2_rm 2 42) s m args below meth c D T b 10 eV 437 [(0, .ref (b + a0)), (1, .int x1), (2, .int x2), (5, .int x5), (8, .int x8)] [] M (kx x9 M)) (M : Me) : GN p l e (k2_rm 2 42) s m args below meth c D T b 10 eV 386 [(0, .ref (b + a0)), (1, .int x1), (2, .int x2), (5, .int x5), (8, .int x8), (9, .int x9)] [] M (l_X5_checkLocal_386 kx a0 x1 x2 x5 x8 x9 M) := by
  exact n_loop (σ := Int32 × Me) (fun z => [(0, .ref (b + a0)), (1, .int x1), (2, .int x2), (5, .int x5), (8, .int x8), (9, .int z.1)]) (fun z => z.2) (fun kb hkb z => b_X5_checkLocal_386_g hC a0 x1 x2 x5 x8 z.1 h0 kx hkx kb hkb z.2) FU (x9, M)
def j_X5_checkLocal_371 (a0 : Nat) (x1 : Int32) (x2 : Int32) (x4 : Int32) (x5 : Int32) (x7 : Int32) (x8 : Int32) (M : Me) : Option (Unit × Me) := cal (f_X5_want M a0 x4 (8 : Int32) x7.toInt64) (fun r15 M16 => l_X5_checkLocal_386 (fun v22 M23 => chk x1 (ln (rf a0 42)) (bnd (sI M23 (rf a0 42) x1.toNatClampNeg x5) (fun M24 => chk x1 (ln (rf a0 43)) (bnd (sI M24 (rf a0 43) x1.toNatClampNeg x8) (fun M25 => cal (f_X5_isSafe M25 a0) (fun r26 M27 => cal (f_X5_want M27 a0 r26 (10 : Int32) x2.toInt64) (fun r28 M29 => some ((), M29)))))))) a0 x1 x2 x5 x8 (0 : Int32) M16)
set_option maxHeartbeats 4000000 in
set_option maxRecDepth 100000 in
theorem b_X5_checkLocal_371 {p : Program} {l : Launch} {e : Env} {s : State} {m : MethodId} {args : Array Value} {below : List Frame} {meth : Method} {c : Code} {D : va_G} {T : Nat → ClassId} {b : Nat} (hC : CX p s m args meth c cX5_checkLocal 10 RX5 none D T) (a0 : Nat) (x1 : Int32) (x2 : Int32) (x4 : Int32) (x5 : Int32) (x7 : Int32) (x8 : Int32) (h0 : kd a0 = 5) (M : Me) : GN p l e (k2_rm 2 42) s m args below meth c D T b 10 eV 371 [(0, .ref (b + a0)), (1, .int x1), (2, .int x2), (4, .int x4), (5, .int x5), (7, .int x7), (8, .int x8)] [] M (j_X5_checkLocal_371 a0 x1 x2 x4 x5 x7 x8 M) := by
  unfold j_X5_checkLocal_371
  refine n_aload_n hC 0 rfl dX5_checkLocal_371 ?_
  refine n_iload hC 3 rfl dX5_checkLocal_372 ?_
  refine n_bipush hC (8 : Int32) (by decide) dX5_checkLocal_374 ?_
  refine n_iload hC 5 rfl dX5_checkLocal_376 ?_
  refine n_i2l hC dX5_checkLocal_378 ?_
  refine n_callVi (As := [.int x4, .int (8 : Int32), .long x7.toInt64]) (rest := []) h0 rfl (by decide) hC (c_X5_want l M a0 x4 (8 : Int32) x7.toInt64 h0) my_X5_want ml_X5_200 rfl rfl rfl (Nat.le_of_ble_eq_true rfl) ⟨by decide, by decide⟩ dX5_checkLocal_379 (fun r15 M16 => ?_)
  refine n_pop hC rfl dX5_checkLocal_382 ?_
  refine n_iconst hC (0 : Int32) (by decide) dX5_checkLocal_383 ?_
  refine n_istore hC [(9, .int (0 : Int32)), (0, .ref (b + a0)), (1, .int x1), (2, .int x2), (4, .int x4), (5, .int x5), (7, .int x7), (8, .int x8)] (by decide) rfl dX5_checkLocal_384 ?_
  refine GN.sub [1, 2, 3, 5, 7, 0] rfl (b_X5_checkLocal_386 hC a0 x1 x2 x5 x8 (0 : Int32) h0 _ (fun v22 M23 => ?_) M16)
  refine n_aload_n hC 0 rfl dX5_checkLocal_437 ?_
  refine n_get hC clX5 h0 42 (.ref (b + (rf a0 42))) (by decide) rfl fl_X5_267 rfl dX5_checkLocal_438 ?_
  refine n_iload_n hC 1 rfl dX5_checkLocal_441 ?_
  refine n_iload hC 3 rfl dX5_checkLocal_442 ?_
  refine n_iast hC (kf_X5_42 h0) dX5_checkLocal_444 (fun M24 => ?_)
  refine n_aload_n hC 0 rfl dX5_checkLocal_445 ?_
  refine n_get hC clX5 h0 43 (.ref (b + (rf a0 43))) (by decide) rfl fl_X5_270 rfl dX5_checkLocal_446 ?_
  refine n_iload_n hC 1 rfl dX5_checkLocal_449 ?_
  refine n_iload hC 4 rfl dX5_checkLocal_450 ?_
  refine n_iast hC (kf_X5_43 h0) dX5_checkLocal_452 (fun M25 => ?_)
  refine n_aload_n hC 0 rfl dX5_checkLocal_453 ?_
  refine n_aload_n hC 0 rfl dX5_checkLocal_454 ?_
  refine n_callVi (As := []) (rest := [.ref (b + a0)]) h0 rfl (by decide) hC (c_X5_isSafe l M25 a0 h0) my_X5_isSafe ml_X5_273 rfl rfl rfl (Nat.le_of_ble_eq_true rfl) ⟨by decide, by decide⟩ dX5_checkLocal_455 (fun r26 M27 => ?_)
  refine n_bipush hC (10 : Int32) (by decide) dX5_checkLocal_458 ?_
  refine n_iload_n hC 2 rfl dX5_checkLocal_460 ?_
  refine n_i2l hC dX5_checkLocal_461 ?_
  refine n_callVi (As := [.int r26, .int (10 : Int32), .long x2.toInt64]) (rest := []) h0 rfl (by decide) hC (c_X5_want l M27 a0 r26 (10 : Int32) x2.toInt64 h0) my_X5_want ml_X5_200 rfl rfl rfl (Nat.le_of_ble_eq_true rfl) ⟨by decide, by decide⟩ dX5_checkLocal_462 (fun r28 M29 => ?_)
  refine n_pop hC rfl dX5_checkLocal_465 ?_
  exact n_vret hC dX5_checkLocal_466
def j_X5_checkLocal_369 (a0 : Nat) (x1 : Int32) (x2 : Int32) (x5 : Int32) (x7 : Int32) (x8 : Int32) (s0 : Int32) (M : Me) : Option (Unit × Me) := j_X5_checkLocal_371 a0 x1 x2 s0 x5 x7 x8 M
set_option maxHeartbeats 4000000 in
set_option maxRecDepth 100000 in
theorem b_X5_checkLocal_369 {p : Program} {l : Launch} {e : Env} {s : State} {m : MethodId} {args : Array Value} {below : List Frame} {meth : Method} {c : Code} {D : va_G} {T : Nat → ClassId} {b : Nat} (hC : CX p s m args meth c cX5_checkLocal 10 RX5 none D T) (a0 : Nat) (x1 : Int32) (x2 : Int32) (x5 : Int32) (x7 : Int32) (x8 : Int32) (s0 : Int32) (h0 : kd a0 = 5) (M : Me) : GN p l e (k2_rm 2 42) s m args below meth c D T b 10 eV 369 [(0, .ref (b + a0)), (1, .int x1), (2, .int x2), (5, .int x5), (7, .int x7), (8, .int x8)] [.int s0] M (j_X5_checkLocal_369 a0 x1 x2 x5 x7 x8 s0 M) := by
  unfold j_X5_checkLocal_369
  refine n_istore hC [(4, .int s0), (0, .ref (b + a0)), (1, .int x1), (2, .int x2), (5, .int x5), (7, .int x7), (8, .int x8)] (by decide) rfl dX5_checkLocal_369 ?_
  exact GN.sub [1, 2, 3, 0, 4, 5, 6] rfl (b_X5_checkLocal_371 hC a0 x1 x2 s0 x5 x7 x8 h0 M)
def j_X5_checkLocal_368 (a0 : Nat) (x1 : Int32) (x2 : Int32) (x5 : Int32) (x7 : Int32) (x8 : Int32) (M : Me) : Option (Unit × Me) := j_X5_checkLocal_369 a0 x1 x2 x5 x7 x8 (0 : Int32) M
set_option maxHeartbeats 4000000 in
set_option maxRecDepth 100000 in
theorem b_X5_checkLocal_368 {p : Program} {l : Launch} {e : Env} {s : State} {m : MethodId} {args : Array Value} {below : List Frame} {meth : Method} {c : Code} {D : va_G} {T : Nat → ClassId} {b : Nat} (hC : CX p s m args meth c cX5_checkLocal 10 RX5 none D T) (a0 : Nat) (x1 : Int32) (x2 : Int32) (x5 : Int32) (x7 : Int32) (x8 : Int32) (h0 : kd a0 = 5) (M : Me) : GN p l e (k2_rm 2 42) s m args below meth c D T b 10 eV 368 [(0, .ref (b + a0)), (1, .int x1), (2, .int x2), (5, .int x5), (7, .int x7), (8, .int x8)] [] M (j_X5_checkLocal_368 a0 x1 x2 x5 x7 x8 M) := by
  unfold j_X5_checkLocal_368
  refine n_iconst hC (0 : Int32) (by decide) dX5_checkLocal_368 ?_
  exact GN.sub [0, 1, 2, 3, 4, 5] rfl (b_X5_checkLocal_369 hC a0 x1 x2 x5 x7 x8 (0 : Int32) h0 M)
def j_X5_checkLocal_317 (a0 : Nat) (x1 : Int32) (x2 : Int32) (x3 : Int32) (x5 : Int32) (x7 : Int32) (x8 : Int32) (s0 : Int32) (M : Me) : Option (Unit × Me) := if s0 = (0 : Int32) then j_X5_checkLocal_371 a0 x1 x2 s0 x5 x7 x8 M else if x3 = (8 : Int32) then cal (f_X5_four M a0 (x8 - (16 : Int32))) (fun r30 M31 => if (lg_cmp r30 (134695760 : Int64)) = (0 : Int32) then cal (f_X5_areAlike M31 a0 (x8 - (12 : Int32)) (x2 + (16 : Int32)) (12 : Int32)) (fun r32 M33 => if r32 = (0 : Int32) then j_X5_checkLocal_368 a0 x1 x2 x5 x7 x8 M33 else j_X5_checkLocal_369 a0 x1 x2 x5 x7 x8 (1 : Int32) M33) else j_X5_checkLocal_368 a0 x1 x2 x5 x7 x8 M31) else j_X5_checkLocal_371 a0 x1 x2 s0 x5 x7 x8 M
set_option maxHeartbeats 4000000 in
set_option maxRecDepth 100000 in
theorem b_X5_checkLocal_317 {p : Program} {l : Launch} {e : Env} {s : State} {m : MethodId} {args : Array Value} {below : List Frame} {meth : Method} {c : Code} {D : va_G} {T : Nat → ClassId} {b : Nat} (hC : CX p s m args meth c cX5_checkLocal 10 RX5 none D T) (a0 : Nat) (x1 : Int32) (x2 : Int32) (x3 : Int32) (x5 : Int32) (x7 : Int32) (x8 : Int32) (s0 : Int32) (h0 : kd a0 = 5) (M : Me) : GN p l e (k2_rm 2 42) s m args below meth c D T b 10 eV 317 [(0, .ref (b + a0)), (1, .int x1), (2, .int x2), (3, .int x3), (5, .int x5), (7, .int x7), (8, .int x8)] [.int s0] M (j_X5_checkLocal_317 a0 x1 x2 x3 x5 x7 x8 s0 M) := by
  unfold j_X5_checkLocal_317
  refine n_istore hC [(4, .int s0), (0, .ref (b + a0)), (1, .int x1), (2, .int x2), (3, .int x3), (5, .int x5), (7, .int x7), (8, .int x8)] (by decide) rfl dX5_checkLocal_317 ?_
  refine n_iload hC 0 rfl dX5_checkLocal_319 ?_
  refine n_if_eq hC 371 dX5_checkLocal_321 (by decide) ?_ ?_
  · exact GN.sub [1, 2, 3, 0, 5, 6, 7] rfl (b_X5_checkLocal_371 hC a0 x1 x2 s0 x5 x7 x8 h0 M)
  refine n_iload_n hC 4 rfl dX5_checkLocal_324 ?_
  refine n_bipush hC (8 : Int32) (by decide) dX5_checkLocal_325 ?_
  refine n_icmp_ne hC 371 dX5_checkLocal_327 (by decide) ?_ ?_
  · exact GN.sub [1, 2, 3, 0, 5, 6, 7] rfl (b_X5_checkLocal_371 hC a0 x1 x2 s0 x5 x7 x8 h0 M)
  refine n_aload_n hC 1 rfl dX5_checkLocal_330 ?_
  refine n_iload hC 7 rfl dX5_checkLocal_331 ?_
  refine n_bipush hC (16 : Int32) (by decide) dX5_checkLocal_333 ?_
  refine n_isub hC dX5_checkLocal_335 ?_
  refine n_callVl (As := [.int (x8 - (16 : Int32))]) (rest := []) h0 rfl (by decide) hC (c_X5_four l M a0 (x8 - (16 : Int32)) h0) my_X5_four ml_X5_196 rfl rfl rfl (Nat.le_of_ble_eq_true rfl) ⟨by decide, by decide⟩ dX5_checkLocal_336 (fun r30 M31 => ?_)
  refine n_ldc2 hC (134695760 : Int64) kc_X5_161 dX5_checkLocal_339 ?_
  refine n_lcmp hC dX5_checkLocal_342 ?_
  refine n_if_ne hC 368 dX5_checkLocal_343 (by decide) ?_ ?_
  · exact GN.sub [1, 2, 3, 5, 6, 7] rfl (b_X5_checkLocal_368 hC a0 x1 x2 x5 x7 x8 h0 M31)
  refine n_aload_n hC 1 rfl dX5_checkLocal_346 ?_
  refine n_iload hC 7 rfl dX5_checkLocal_347 ?_
  refine n_bipush hC (12 : Int32) (by decide) dX5_checkLocal_349 ?_
  refine n_isub hC dX5_checkLocal_351 ?_
  refine n_iload_n hC 3 rfl dX5_checkLocal_352 ?_
  refine n_bipush hC (16 : Int32) (by decide) dX5_checkLocal_353 ?_
  refine n_iadd hC dX5_checkLocal_355 ?_
  refine n_bipush hC (12 : Int32) (by decide) dX5_checkLocal_356 ?_
  refine n_callVi (As := [.int (x8 - (12 : Int32)), .int (x2 + (16 : Int32)), .int (12 : Int32)]) (rest := []) h0 rfl (by decide) hC (c_X5_areAlike l M31 a0 (x8 - (12 : Int32)) (x2 + (16 : Int32)) (12 : Int32) h0) my_X5_areAlike ml_X5_263 rfl rfl rfl (Nat.le_of_ble_eq_true rfl) ⟨by decide, by decide⟩ dX5_checkLocal_358 (fun r32 M33 => ?_)
  refine n_if_eq hC 368 dX5_checkLocal_361 (by decide) ?_ ?_
  · exact GN.sub [1, 2, 3, 5, 6, 7] rfl (b_X5_checkLocal_368 hC a0 x1 x2 x5 x7 x8 h0 M33)
  refine n_iconst hC (1 : Int32) (by decide) dX5_checkLocal_364 ?_
  refine n_goto hC (tgt := 369) (by decide) dX5_checkLocal_365 ?_
  exact GN.sub [1, 2, 3, 5, 6, 7] rfl (b_X5_checkLocal_369 hC a0 x1 x2 x5 x7 x8 (1 : Int32) h0 M33)
def j_X5_checkLocal_300 (a0 : Nat) (x1 : Int32) (x2 : Int32) (x3 : Int32) (x5 : Int32) (x7 : Int32) (s0 : Int32) (s1 : Int32) (M : Me) : Option (Unit × Me) := bndV (s1 + s0) (fun v14 => if (M.1 a0 31) < v14 then j_X5_checkLocal_317 a0 x1 x2 x3 x5 x7 v14 (0 : Int32) M else j_X5_checkLocal_317 a0 x1 x2 x3 x5 x7 v14 (1 : Int32) M)
set_option maxHeartbeats 4000000 in
set_option maxRecDepth 100000 in
theorem b_X5_checkLocal_300 {p : Program} {l : Launch} {e : Env} {s : State} {m : MethodId} {args : Array Value} {below : List Frame} {meth : Method} {c : Code} {D : va_G} {T : Nat → ClassId} {b : Nat} (hC : CX p s m args meth c cX5_checkLocal 10 RX5 none D T) (a0 : Nat) (x1 : Int32) (x2 : Int32) (x3 : Int32) (x5 : Int32) (x7 : Int32) (s0 : Int32) (s1 : Int32) (h0 : kd a0 = 5) (M : Me) : GN p l e (k2_rm 2 42) s m args below meth c D T b 10 eV 300 [(0, .ref (b + a0)), (1, .int x1), (2, .int x2), (3, .int x3), (5, .int x5), (7, .int x7)] [.int s0, .int s1] M (j_X5_checkLocal_300 a0 x1 x2 x3 x5 x7 s0 s1 M) := by
  unfold j_X5_checkLocal_300
  refine n_iadd hC dX5_checkLocal_300 ?_
  refine n_istB hC (fun v14 => [(8, .int v14), (0, .ref (b + a0)), (1, .int x1), (2, .int x2), (3, .int x3), (5, .int x5), (7, .int x7)]) (by decide) (fun _ => rfl) dX5_checkLocal_301 (fun v14 => ?_)
  refine n_iload hC 0 rfl dX5_checkLocal_303 ?_
  refine n_aload_n hC 1 rfl dX5_checkLocal_305 ?_
  refine n_get hC clX5 h0 31 (.int (M.1 a0 31)) (by decide) rfl fl_X5_210 rfl dX5_checkLocal_306 ?_
  refine n_icmp_gt hC 316 dX5_checkLocal_309 (by decide) ?_ ?_
  · refine n_iconst hC (0 : Int32) (by decide) dX5_checkLocal_316 ?_
    exact GN.sub [1, 2, 3, 4, 5, 6, 0] rfl (b_X5_checkLocal_317 hC a0 x1 x2 x3 x5 x7 v14 (0 : Int32) h0 M)
  refine n_iconst hC (1 : Int32) (by decide) dX5_checkLocal_312 ?_
  refine n_goto hC (tgt := 317) (by decide) dX5_checkLocal_313 ?_
  exact GN.sub [1, 2, 3, 4, 5, 6, 0] rfl (b_X5_checkLocal_317 hC a0 x1 x2 x3 x5 x7 v14 (1 : Int32) h0 M)
def j_X5_checkLocal_180 (a0 : Nat) (x1 : Int32) (x2 : Int32) (x3 : Int32) (x5 : Int32) (s0 : Int32) (M : Me) : Option (Unit × Me) := l_X5_checkLocal_185 (fun v8 v9 M10 => cal (f_X5_want M10 a0 v8 (7 : Int32) x5.toInt64) (fun r11 M12 => if r11 = (0 : Int32) then some ((), M12) else bndV (((x5 + (30 : Int32)) + (M12.1 a0 35)) + (M12.1 a0 36)) (fun v13 => if x3 = (8 : Int32) then j_X5_checkLocal_300 a0 x1 x2 x3 x5 v13 (16 : Int32) (v13 + (M12.2 a0 39).toInt32) M12 else j_X5_checkLocal_300 a0 x1 x2 x3 x5 v13 (0 : Int32) (v13 + (M12.2 a0 39).toInt32) M12))) a0 x1 x2 x3 x5 s0 (0 : Int32) M
set_option maxHeartbeats 4000000 in
set_option maxRecDepth 100000 in
theorem b_X5_checkLocal_180 {p : Program} {l : Launch} {e : Env} {s : State} {m : MethodId} {args : Array Value} {below : List Frame} {meth : Method} {c : Code} {D : va_G} {T : Nat → ClassId} {b : Nat} (hC : CX p s m args meth c cX5_checkLocal 10 RX5 none D T) (a0 : Nat) (x1 : Int32) (x2 : Int32) (x3 : Int32) (x5 : Int32) (s0 : Int32) (h0 : kd a0 = 5) (M : Me) : GN p l e (k2_rm 2 42) s m args below meth c D T b 10 eV 180 [(0, .ref (b + a0)), (1, .int x1), (2, .int x2), (3, .int x3), (5, .int x5)] [.int s0] M (j_X5_checkLocal_180 a0 x1 x2 x3 x5 s0 M) := by
  unfold j_X5_checkLocal_180
  refine n_istore hC [(6, .int s0), (0, .ref (b + a0)), (1, .int x1), (2, .int x2), (3, .int x3), (5, .int x5)] (by decide) rfl dX5_checkLocal_180 ?_
  refine n_iconst hC (0 : Int32) (by decide) dX5_checkLocal_182 ?_
  refine n_istore hC [(7, .int (0 : Int32)), (6, .int s0), (0, .ref (b + a0)), (1, .int x1), (2, .int x2), (3, .int x3), (5, .int x5)] (by decide) rfl dX5_checkLocal_183 ?_
  refine GN.sub [2, 3, 4, 5, 6, 1, 0] rfl (b_X5_checkLocal_185 hC a0 x1 x2 x3 x5 s0 (0 : Int32) h0 _ (fun v8 v9 M10 => ?_) M)
  refine n_aload_n hC 0 rfl dX5_checkLocal_248 ?_
  refine n_iload hC 5 rfl dX5_checkLocal_249 ?_
  refine n_bipush hC (7 : Int32) (by decide) dX5_checkLocal_251 ?_
  refine n_iload hC 4 rfl dX5_checkLocal_253 ?_
  refine n_i2l hC dX5_checkLocal_255 ?_
  refine n_callVi (As := [.int v8, .int (7 : Int32), .long x5.toInt64]) (rest := []) h0 rfl (by decide) hC (c_X5_want l M10 a0 v8 (7 : Int32) x5.toInt64 h0) my_X5_want ml_X5_200 rfl rfl rfl (Nat.le_of_ble_eq_true rfl) ⟨by decide, by decide⟩ dX5_checkLocal_256 (fun r11 M12 => ?_)
  refine n_if_ne hC 263 dX5_checkLocal_259 (by decide) ?_ ?_
  · refine n_iload hC 4 rfl dX5_checkLocal_263 ?_
    refine n_bipush hC (30 : Int32) (by decide) dX5_checkLocal_265 ?_
    refine n_iadd hC dX5_checkLocal_267 ?_
    refine n_aload_n hC 0 rfl dX5_checkLocal_268 ?_
    refine n_get hC clX5 h0 35 (.int (M12.1 a0 35)) (by decide) rfl fl_X5_229 rfl dX5_checkLocal_269 ?_
    refine n_iadd hC dX5_checkLocal_272 ?_
    refine n_aload_n hC 0 rfl dX5_checkLocal_273 ?_
    refine n_get hC clX5 h0 36 (.int (M12.1 a0 36)) (by decide) rfl fl_X5_232 rfl dX5_checkLocal_274 ?_
    refine n_iadd hC dX5_checkLocal_277 ?_
    refine n_istB hC (fun v13 => [(7, .int v13), (0, .ref (b + a0)), (1, .int x1), (2, .int x2), (3, .int x3), (5, .int x5), (6, .int v8)]) (by decide) (fun _ => rfl) dX5_checkLocal_278 (fun v13 => ?_)
    refine n_iload hC 0 rfl dX5_checkLocal_280 ?_
    refine n_aload_n hC 1 rfl dX5_checkLocal_282 ?_
    refine n_get hC clX5 h0 39 (.long (M12.2 a0 39)) (by decide) rfl fl_X5_235 rfl dX5_checkLocal_283 ?_
    refine n_l2i hC dX5_checkLocal_286 ?_
    refine n_iadd hC dX5_checkLocal_287 ?_
    refine n_iload_n hC 4 rfl dX5_checkLocal_288 ?_
    refine n_bipush hC (8 : Int32) (by decide) dX5_checkLocal_289 ?_
    refine n_icmp_ne hC 299 dX5_checkLocal_291 (by decide) ?_ ?_
    · refine n_iconst hC (0 : Int32) (by decide) dX5_checkLocal_299 ?_
      exact GN.sub [1, 2, 3, 4, 5, 0] rfl (b_X5_checkLocal_300 hC a0 x1 x2 x3 x5 v13 (0 : Int32) (v13 + (M12.2 a0 39).toInt32) h0 M12)
    refine n_bipush hC (16 : Int32) (by decide) dX5_checkLocal_294 ?_
    refine n_goto hC (tgt := 300) (by decide) dX5_checkLocal_296 ?_
    exact GN.sub [1, 2, 3, 4, 5, 0] rfl (b_X5_checkLocal_300 hC a0 x1 x2 x3 x5 v13 (16 : Int32) (v13 + (M12.2 a0 39).toInt32) h0 M12)
  exact n_vret hC dX5_checkLocal_262
def j_X5_checkLocal_179 (a0 : Nat) (x1 : Int32) (x2 : Int32) (x3 : Int32) (x5 : Int32) (M : Me) : Option (Unit × Me) := j_X5_checkLocal_180 a0 x1 x2 x3 x5 (0 : Int32) M
set_option maxHeartbeats 4000000 in
set_option maxRecDepth 100000 in
theorem b_X5_checkLocal_179 {p : Program} {l : Launch} {e : Env} {s : State} {m : MethodId} {args : Array Value} {below : List Frame} {meth : Method} {c : Code} {D : va_G} {T : Nat → ClassId} {b : Nat} (hC : CX p s m args meth c cX5_checkLocal 10 RX5 none D T) (a0 : Nat) (x1 : Int32) (x2 : Int32) (x3 : Int32) (x5 : Int32) (h0 : kd a0 = 5) (M : Me) : GN p l e (k2_rm 2 42) s m args below meth c D T b 10 eV 179 [(0, .ref (b + a0)), (1, .int x1), (2, .int x2), (3, .int x3), (5, .int x5)] [] M (j_X5_checkLocal_179 a0 x1 x2 x3 x5 M) := by
  unfold j_X5_checkLocal_179
  refine n_iconst hC (0 : Int32) (by decide) dX5_checkLocal_179 ?_
  exact GN.sub [0, 1, 2, 3, 4] rfl (b_X5_checkLocal_180 hC a0 x1 x2 x3 x5 (0 : Int32) h0 M)
def j_X5_checkLocal_98 (a0 : Nat) (x1 : Int32) (x2 : Int32) (x3 : Int32) (x5 : Int32) (s0 : Int32) (M : Me) : Option (Unit × Me) := cal (f_X5_want M a0 s0 (6 : Int32) (M.2 a0 41)) (fun r1 M2 => if r1 = (0 : Int32) then some ((), M2) else cal (f_X5_areAlike M2 a0 (x5 + (4 : Int32)) (x2 + (6 : Int32)) (10 : Int32)) (fun r3 M4 => if r3 = (0 : Int32) then j_X5_checkLocal_179 a0 x1 x2 x3 x5 M4 else cal (f_X5_areAlike M4 a0 (x5 + (26 : Int32)) (x2 + (28 : Int32)) (4 : Int32)) (fun r34 M35 => if r34 = (0 : Int32) then j_X5_checkLocal_179 a0 x1 x2 x3 x5 M35 else cal (f_X5_areAlike M35 a0 (x5 + (30 : Int32)) (M35.1 a0 34) ((M35.1 a0 35) + (M35.1 a0 36))) (fun r36 M37 => if r36 = (0 : Int32) then j_X5_checkLocal_179 a0 x1 x2 x3 x5 M37 else j_X5_checkLocal_180 a0 x1 x2 x3 x5 (1 : Int32) M37))))
set_option maxHeartbeats 4000000 in
set_option maxRecDepth 100000 in
theorem b_X5_checkLocal_98 {p : Program} {l : Launch} {e : Env} {s : State} {m : MethodId} {args : Array Value} {below : List Frame} {meth : Method} {c : Code} {D : va_G} {T : Nat → ClassId} {b : Nat} (hC : CX p s m args meth c cX5_checkLocal 10 RX5 none D T) (a0 : Nat) (x1 : Int32) (x2 : Int32) (x3 : Int32) (x5 : Int32) (s0 : Int32) (h0 : kd a0 = 5) (M : Me) : GN p l e (k2_rm 2 42) s m args below meth c D T b 10 eV 98 [(0, .ref (b + a0)), (1, .int x1), (2, .int x2), (3, .int x3), (5, .int x5)] [.int s0] M (j_X5_checkLocal_98 a0 x1 x2 x3 x5 s0 M) := by
  unfold j_X5_checkLocal_98
  refine n_istore hC [(4, .int s0), (0, .ref (b + a0)), (1, .int x1), (2, .int x2), (3, .int x3), (5, .int x5)] (by decide) rfl dX5_checkLocal_98 ?_
  refine n_aload_n hC 1 rfl dX5_checkLocal_100 ?_
  refine n_iload hC 0 rfl dX5_checkLocal_101 ?_
  refine n_bipush hC (6 : Int32) (by decide) dX5_checkLocal_103 ?_
  refine n_aload_n hC 1 rfl dX5_checkLocal_105 ?_
  refine n_get hC clX5 h0 41 (.long (M.2 a0 41)) (by decide) rfl fl_X5_242 rfl dX5_checkLocal_106 ?_
  refine n_callVi (As := [.int s0, .int (6 : Int32), .long (M.2 a0 41)]) (rest := []) h0 rfl (by decide) hC (c_X5_want l M a0 s0 (6 : Int32) (M.2 a0 41) h0) my_X5_want ml_X5_200 rfl rfl rfl (Nat.le_of_ble_eq_true rfl) ⟨by decide, by decide⟩ dX5_checkLocal_109 (fun r1 M2 => ?_)
  refine n_if_ne hC 116 dX5_checkLocal_112 (by decide) ?_ ?_
  · refine n_aload_n hC 1 rfl dX5_checkLocal_116 ?_
    refine n_iload hC 5 rfl dX5_checkLocal_117 ?_
    refine n_iconst hC (4 : Int32) (by decide) dX5_checkLocal_119 ?_
    refine n_iadd hC dX5_checkLocal_120 ?_
    refine n_iload_n hC 3 rfl dX5_checkLocal_121 ?_
    refine n_bipush hC (6 : Int32) (by decide) dX5_checkLocal_122 ?_
    refine n_iadd hC dX5_checkLocal_124 ?_
    refine n_bipush hC (10 : Int32) (by decide) dX5_checkLocal_125 ?_
    refine n_callVi (As := [.int (x5 + (4 : Int32)), .int (x2 + (6 : Int32)), .int (10 : Int32)]) (rest := []) h0 rfl (by decide) hC (c_X5_areAlike l M2 a0 (x5 + (4 : Int32)) (x2 + (6 : Int32)) (10 : Int32) h0) my_X5_areAlike ml_X5_263 rfl rfl rfl (Nat.le_of_ble_eq_true rfl) ⟨by decide, by decide⟩ dX5_checkLocal_127 (fun r3 M4 => ?_)
    refine n_if_eq hC 179 dX5_checkLocal_130 (by decide) ?_ ?_
    · exact GN.sub [1, 2, 3, 4, 5] rfl (b_X5_checkLocal_179 hC a0 x1 x2 x3 x5 h0 M4)
    refine n_aload_n hC 1 rfl dX5_checkLocal_133 ?_
    refine n_iload hC 5 rfl dX5_checkLocal_134 ?_
    refine n_bipush hC (26 : Int32) (by decide) dX5_checkLocal_136 ?_
    refine n_iadd hC dX5_checkLocal_138 ?_
    refine n_iload_n hC 3 rfl dX5_checkLocal_139 ?_
    refine n_bipush hC (28 : Int32) (by decide) dX5_checkLocal_140 ?_
    refine n_iadd hC dX5_checkLocal_142 ?_
    refine n_iconst hC (4 : Int32) (by decide) dX5_checkLocal_143 ?_
    refine n_callVi (As := [.int (x5 + (26 : Int32)), .int (x2 + (28 : Int32)), .int (4 : Int32)]) (rest := []) h0 rfl (by decide) hC (c_X5_areAlike l M4 a0 (x5 + (26 : Int32)) (x2 + (28 : Int32)) (4 : Int32) h0) my_X5_areAlike ml_X5_263 rfl rfl rfl (Nat.le_of_ble_eq_true rfl) ⟨by decide, by decide⟩ dX5_checkLocal_144 (fun r34 M35 => ?_)
    refine n_if_eq hC 179 dX5_checkLocal_147 (by decide) ?_ ?_
    · exact GN.sub [1, 2, 3, 4, 5] rfl (b_X5_checkLocal_179 hC a0 x1 x2 x3 x5 h0 M35)
    refine n_aload_n hC 1 rfl dX5_checkLocal_150 ?_
    refine n_iload hC 5 rfl dX5_checkLocal_151 ?_
    refine n_bipush hC (30 : Int32) (by decide) dX5_checkLocal_153 ?_
    refine n_iadd hC dX5_checkLocal_155 ?_
    refine n_aload_n hC 1 rfl dX5_checkLocal_156 ?_
    refine n_get hC clX5 h0 34 (.int (M35.1 a0 34)) (by decide) rfl fl_X5_226 rfl dX5_checkLocal_157 ?_
    refine n_aload_n hC 1 rfl dX5_checkLocal_160 ?_
    refine n_get hC clX5 h0 35 (.int (M35.1 a0 35)) (by decide) rfl fl_X5_229 rfl dX5_checkLocal_161 ?_
    refine n_aload_n hC 1 rfl dX5_checkLocal_164 ?_
    refine n_get hC clX5 h0 36 (.int (M35.1 a0 36)) (by decide) rfl fl_X5_232 rfl dX5_checkLocal_165 ?_
    refine n_iadd hC dX5_checkLocal_168 ?_
    refine n_callVi (As := [.int (x5 + (30 : Int32)), .int (M35.1 a0 34), .int ((M35.1 a0 35) + (M35.1 a0 36))]) (rest := []) h0 rfl (by decide) hC (c_X5_areAlike l M35 a0 (x5 + (30 : Int32)) (M35.1 a0 34) ((M35.1 a0 35) + (M35.1 a0 36)) h0) my_X5_areAlike ml_X5_263 rfl rfl rfl (Nat.le_of_ble_eq_true rfl) ⟨by decide, by decide⟩ dX5_checkLocal_169 (fun r36 M37 => ?_)
    refine n_if_eq hC 179 dX5_checkLocal_172 (by decide) ?_ ?_
    · exact GN.sub [1, 2, 3, 4, 5] rfl (b_X5_checkLocal_179 hC a0 x1 x2 x3 x5 h0 M37)
    refine n_iconst hC (1 : Int32) (by decide) dX5_checkLocal_175 ?_
    refine n_goto hC (tgt := 180) (by decide) dX5_checkLocal_176 ?_
    exact GN.sub [1, 2, 3, 4, 5] rfl (b_X5_checkLocal_180 hC a0 x1 x2 x3 x5 (1 : Int32) h0 M37)
  exact n_vret hC dX5_checkLocal_115
def j_X5_checkLocal_97 (a0 : Nat) (x1 : Int32) (x2 : Int32) (x3 : Int32) (x5 : Int32) (M : Me) : Option (Unit × Me) := j_X5_checkLocal_98 a0 x1 x2 x3 x5 (0 : Int32) M
set_option maxHeartbeats 4000000 in
set_option maxRecDepth 100000 in
theorem b_X5_checkLocal_97 {p : Program} {l : Launch} {e : Env} {s : State} {m : MethodId} {args : Array Value} {below : List Frame} {meth : Method} {c : Code} {D : va_G} {T : Nat → ClassId} {b : Nat} (hC : CX p s m args meth c cX5_checkLocal 10 RX5 none D T) (a0 : Nat) (x1 : Int32) (x2 : Int32) (x3 : Int32) (x5 : Int32) (h0 : kd a0 = 5) (M : Me) : GN p l e (k2_rm 2 42) s m args below meth c D T b 10 eV 97 [(0, .ref (b + a0)), (1, .int x1), (2, .int x2), (3, .int x3), (5, .int x5)] [] M (j_X5_checkLocal_97 a0 x1 x2 x3 x5 M) := by
  unfold j_X5_checkLocal_97
  refine n_iconst hC (0 : Int32) (by decide) dX5_checkLocal_97 ?_
  exact GN.sub [0, 1, 2, 3, 4] rfl (b_X5_checkLocal_98 hC a0 x1 x2 x3 x5 (0 : Int32) h0 M)
def j_X5_checkLocal_54 (a0 : Nat) (x1 : Int32) (x2 : Int32) (x3 : Int32) (x4 : Int32) (s0 : Int32) (M : Me) : Option (Unit × Me) := if x4 = (0 : Int32) then j_X5_checkLocal_97 a0 x1 x2 x3 s0 M else cal (f_X5_two M a0 (s0 + (26 : Int32))) (fun r38 M39 => cal (f_X5_two M39 a0 (s0 + (28 : Int32))) (fun r40 M41 => if (M41.1 a0 31) < (((s0 + (30 : Int32)) + r38) + r40) then j_X5_checkLocal_97 a0 x1 x2 x3 s0 M41 else j_X5_checkLocal_98 a0 x1 x2 x3 s0 (1 : Int32) M41))
set_option maxHeartbeats 4000000 in
set_option maxRecDepth 100000 in
theorem b_X5_checkLocal_54 {p : Program} {l : Launch} {e : Env} {s : State} {m : MethodId} {args : Array Value} {below : List Frame} {meth : Method} {c : Code} {D : va_G} {T : Nat → ClassId} {b : Nat} (hC : CX p s m args meth c cX5_checkLocal 10 RX5 none D T) (a0 : Nat) (x1 : Int32) (x2 : Int32) (x3 : Int32) (x4 : Int32) (s0 : Int32) (h0 : kd a0 = 5) (M : Me) : GN p l e (k2_rm 2 42) s m args below meth c D T b 10 eV 54 [(0, .ref (b + a0)), (1, .int x1), (2, .int x2), (3, .int x3), (4, .int x4)] [.int s0] M (j_X5_checkLocal_54 a0 x1 x2 x3 x4 s0 M) := by
  unfold j_X5_checkLocal_54
  refine n_istore hC [(5, .int s0), (0, .ref (b + a0)), (1, .int x1), (2, .int x2), (3, .int x3), (4, .int x4)] (by decide) rfl dX5_checkLocal_54 ?_
  refine n_iload hC 5 rfl dX5_checkLocal_56 ?_
  refine n_if_eq hC 97 dX5_checkLocal_58 (by decide) ?_ ?_
  · exact GN.sub [1, 2, 3, 4, 0] rfl (b_X5_checkLocal_97 hC a0 x1 x2 x3 s0 h0 M)
  refine n_iload hC 0 rfl dX5_checkLocal_61 ?_
  refine n_bipush hC (30 : Int32) (by decide) dX5_checkLocal_63 ?_
  refine n_iadd hC dX5_checkLocal_65 ?_
  refine n_aload_n hC 1 rfl dX5_checkLocal_66 ?_
  refine n_iload hC 0 rfl dX5_checkLocal_67 ?_
  refine n_bipush hC (26 : Int32) (by decide) dX5_checkLocal_69 ?_
  refine n_iadd hC dX5_checkLocal_71 ?_
  refine n_callVi (As := [.int (s0 + (26 : Int32))]) (rest := [.int (s0 + (30 : Int32))]) h0 rfl (by decide) hC (c_X5_two l M a0 (s0 + (26 : Int32)) h0) my_X5_two ml_X5_193 rfl rfl rfl (Nat.le_of_ble_eq_true rfl) ⟨by decide, by decide⟩ dX5_checkLocal_72 (fun r38 M39 => ?_)
  refine n_iadd hC dX5_checkLocal_75 ?_
  refine n_aload_n hC 1 rfl dX5_checkLocal_76 ?_
  refine n_iload hC 0 rfl dX5_checkLocal_77 ?_
  refine n_bipush hC (28 : Int32) (by decide) dX5_checkLocal_79 ?_
  refine n_iadd hC dX5_checkLocal_81 ?_
  refine n_callVi (As := [.int (s0 + (28 : Int32))]) (rest := [.int ((s0 + (30 : Int32)) + r38)]) h0 rfl (by decide) hC (c_X5_two l M39 a0 (s0 + (28 : Int32)) h0) my_X5_two ml_X5_193 rfl rfl rfl (Nat.le_of_ble_eq_true rfl) ⟨by decide, by decide⟩ dX5_checkLocal_82 (fun r40 M41 => ?_)
  refine n_iadd hC dX5_checkLocal_85 ?_
  refine n_aload_n hC 1 rfl dX5_checkLocal_86 ?_
  refine n_get hC clX5 h0 31 (.int (M41.1 a0 31)) (by decide) rfl fl_X5_210 rfl dX5_checkLocal_87 ?_
  refine n_icmp_gt hC 97 dX5_checkLocal_90 (by decide) ?_ ?_
  · exact GN.sub [1, 2, 3, 4, 0] rfl (b_X5_checkLocal_97 hC a0 x1 x2 x3 s0 h0 M41)
  refine n_iconst hC (1 : Int32) (by decide) dX5_checkLocal_93 ?_
  refine n_goto hC (tgt := 98) (by decide) dX5_checkLocal_94 ?_
  exact GN.sub [1, 2, 3, 4, 0] rfl (b_X5_checkLocal_98 hC a0 x1 x2 x3 s0 (1 : Int32) h0 M41)
def j_X5_checkLocal_38 (a0 : Nat) (x1 : Int32) (x2 : Int32) (x3 : Int32) (s0 : Int32) (M : Me) : Option (Unit × Me) := if s0 = (0 : Int32) then j_X5_checkLocal_54 a0 x1 x2 x3 s0 (0 : Int32) M else j_X5_checkLocal_54 a0 x1 x2 x3 s0 ((M.2 a0 41).toInt32) M
set_option maxHeartbeats 4000000 in
set_option maxRecDepth 100000 in
theorem b_X5_checkLocal_38 {p : Program} {l : Launch} {e : Env} {s : State} {m : MethodId} {args : Array Value} {below : List Frame} {meth : Method} {c : Code} {D : va_G} {T : Nat → ClassId} {b : Nat} (hC : CX p s m args meth c cX5_checkLocal 10 RX5 none D T) (a0 : Nat) (x1 : Int32) (x2 : Int32) (x3 : Int32) (s0 : Int32) (h0 : kd a0 = 5) (M : Me) : GN p l e (k2_rm 2 42) s m args below meth c D T b 10 eV 38 [(0, .ref (b + a0)), (1, .int x1), (2, .int x2), (3, .int x3)] [.int s0] M (j_X5_checkLocal_38 a0 x1 x2 x3 s0 M) := by
  unfold j_X5_checkLocal_38
  refine n_istore hC [(4, .int s0), (0, .ref (b + a0)), (1, .int x1), (2, .int x2), (3, .int x3)] (by decide) rfl dX5_checkLocal_38 ?_
  refine n_iload hC 0 rfl dX5_checkLocal_40 ?_
  refine n_if_eq hC 53 dX5_checkLocal_42 (by decide) ?_ ?_
  · refine n_iconst hC (0 : Int32) (by decide) dX5_checkLocal_53 ?_
    exact GN.sub [1, 2, 3, 4, 0] rfl (b_X5_checkLocal_54 hC a0 x1 x2 x3 s0 (0 : Int32) h0 M)
  refine n_aload_n hC 1 rfl dX5_checkLocal_45 ?_
  refine n_get hC clX5 h0 41 (.long (M.2 a0 41)) (by decide) rfl fl_X5_242 rfl dX5_checkLocal_46 ?_
  refine n_l2i hC dX5_checkLocal_49 ?_
  refine n_goto hC (tgt := 54) (by decide) dX5_checkLocal_50 ?_
  exact GN.sub [1, 2, 3, 4, 0] rfl (b_X5_checkLocal_54 hC a0 x1 x2 x3 s0 ((M.2 a0 41).toInt32) h0 M)
def j_X5_checkLocal_37 (a0 : Nat) (x1 : Int32) (x2 : Int32) (x3 : Int32) (M : Me) : Option (Unit × Me) := j_X5_checkLocal_38 a0 x1 x2 x3 (0 : Int32) M
set_option maxHeartbeats 4000000 in
set_option maxRecDepth 100000 in
theorem b_X5_checkLocal_37 {p : Program} {l : Launch} {e : Env} {s : State} {m : MethodId} {args : Array Value} {below : List Frame} {meth : Method} {c : Code} {D : va_G} {T : Nat → ClassId} {b : Nat} (hC : CX p s m args meth c cX5_checkLocal 10 RX5 none D T) (a0 : Nat) (x1 : Int32) (x2 : Int32) (x3 : Int32) (h0 : kd a0 = 5) (M : Me) : GN p l e (k2_rm 2 42) s m args below meth c D T b 10 eV 37 [(0, .ref (b + a0)), (1, .int x1), (2, .int x2), (3, .int x3)] [] M (j_X5_checkLocal_37 a0 x1 x2 x3 M) := by
  unfold j_X5_checkLocal_37
  refine n_iconst hC (0 : Int32) (by decide) dX5_checkLocal_37 ?_
  exact GN.sub [0, 1, 2, 3] rfl (b_X5_checkLocal_38 hC a0 x1 x2 x3 (0 : Int32) h0 M)
def f_X5_checkLocal (M : Me) (a0 : Nat) (x1 : Int32) (x2 : Int32) (x3 : Int32) : Option (Unit × Me) := if (0 : Int32) < (lg_cmp ((M.2 a0 41) + (30 : Int64)) (((M.1 a0 31)).toInt64)) then j_X5_checkLocal_37 a0 x1 x2 x3 M else cal (f_X5_four M a0 ((M.2 a0 41).toInt32)) (fun r42 M43 => if (lg_cmp r42 (67324752 : Int64)) = (0 : Int32) then j_X5_checkLocal_38 a0 x1 x2 x3 (1 : Int32) M43 else j_X5_checkLocal_37 a0 x1 x2 x3 M43)
set_option maxHeartbeats 4000000 in
set_option maxRecDepth 100000 in
theorem c_X5_checkLocal (l : Launch) (M : Me) (a0 : Nat) (x1 : Int32) (x2 : Int32) (x3 : Int32) (h0 : kd a0 = 5) : CN l yX5_checkLocal cX5_checkLocal 10 none (k2_rm 2 42) eV (fun b => [.ref (b + a0), .int x1, .int x2, .int x3]) M (f_X5_checkLocal M a0 x1 x2 x3) := by
  refine CN.of RX5 (fun b => [(0, .ref (b + a0)), (1, .int x1), (2, .int x2), (3, .int x3)]) (by decide) rfl (fun b => Nat.le_of_ble_eq_true rfl) (fun b => rfl) ?_
  intro p e s m args below meth c D T b hC
  unfold f_X5_checkLocal
  refine n_aload_n hC 0 rfl dX5_checkLocal_0 ?_
  refine n_get hC clX5 h0 41 (.long (M.2 a0 41)) (by decide) rfl fl_X5_242 rfl dX5_checkLocal_1 ?_
  refine n_ldc2 hC (30 : Int64) kc_X5_261 dX5_checkLocal_4 ?_
  refine n_ladd hC dX5_checkLocal_7 ?_
  refine n_aload_n hC 0 rfl dX5_checkLocal_8 ?_
  refine n_get hC clX5 h0 31 (.int (M.1 a0 31)) (by decide) rfl fl_X5_210 rfl dX5_checkLocal_9 ?_
  refine n_i2l hC dX5_checkLocal_12 ?_
  refine n_lcmp hC dX5_checkLocal_13 ?_
  refine n_if_gt hC 37 dX5_checkLocal_14 (by decide) ?_ ?_
  · exact GN.sub [0, 1, 2, 3] rfl (b_X5_checkLocal_37 hC a0 x1 x2 x3 h0 M)
  refine n_aload_n hC 0 rfl dX5_checkLocal_17 ?_
  refine n_aload_n hC 0 rfl dX5_checkLocal_18 ?_
  refine n_get hC clX5 h0 41 (.long (M.2 a0 41)) (by decide) rfl fl_X5_242 rfl dX5_checkLocal_19 ?_
  refine n_l2i hC dX5_checkLocal_22 ?_
  refine n_callVl (As := [.int (M.2 a0 41).toInt32]) (rest := []) h0 rfl (by decide) hC (c_X5_four l M a0 ((M.2 a0 41).toInt32) h0) my_X5_four ml_X5_196 rfl rfl rfl (Nat.le_of_ble_eq_true rfl) ⟨by decide, by decide⟩ dX5_checkLocal_23 (fun r42 M43 => ?_)
  refine n_ldc2 hC (67324752 : Int64) kc_X5_152 dX5_checkLocal_26 ?_
  refine n_lcmp hC dX5_checkLocal_29 ?_
  refine n_if_ne hC 37 dX5_checkLocal_30 (by decide) ?_ ?_
  · exact GN.sub [0, 1, 2, 3] rfl (b_X5_checkLocal_37 hC a0 x1 x2 x3 h0 M43)
  refine n_iconst hC (1 : Int32) (by decide) dX5_checkLocal_33 ?_
  refine n_goto hC (tgt := 38) (by decide) dX5_checkLocal_34 ?_
  exact GN.sub [0, 1, 2, 3] rfl (b_X5_checkLocal_38 hC a0 x1 x2 x3 (1 : Int32) h0 M43)
def j_X5_checkRow_361 (a0 : Nat) (x1 : Int32) (x2 : Int32) (x4 : Int32) (s0 : Int32) (s1 : Nat) (M : Me) : Option (Unit × Me) := cal (f_X5_want M s1 s0 (5 : Int32) x2.toInt64) (fun r22 M23 => if (M23.1 a0 27) = (0 : Int32) then cal (f_X5_checkLocal M23 a0 x1 x2 x4) (fun _ M25 => some ((), M25)) else some ((), M23))
set_option maxHeartbeats 4000000 in
set_option maxRecDepth 100000 in
theorem b_X5_checkRow_361 {p : Program} {l : Launch} {e : Env} {s : State} {m : MethodId} {args : Array Value} {below : List Frame} {meth : Method} {c : Code} {D : va_G} {T : Nat → ClassId} {b : Nat} (hC : CX p s m args meth c cX5_checkRow 8 RX5 none D T) (a0 : Nat) (x1 : Int32) (x2 : Int32) (x4 : Int32) (s0 : Int32) (s1 : Nat) (h0 : kd a0 = 5) (hs1 : kd s1 = 5) (M : Me) : GN p l e (k2_rm 3 71) s m args below meth c D T b 8 eV 361 [(0, .ref (b + a0)), (1, .int x1), (2, .int x2), (4, .int x4)] [.int s0, .ref (b + s1)] M (j_X5_checkRow_361 a0 x1 x2 x4 s0 s1 M) := by
  unfold j_X5_checkRow_361
  refine n_iconst hC (5 : Int32) (by decide) dX5_checkRow_361 ?_
  refine n_iload_n hC 2 rfl dX5_checkRow_362 ?_
  refine n_i2l hC dX5_checkRow_363 ?_
  refine n_callVi (As := [.int s0, .int (5 : Int32), .long x2.toInt64]) (rest := []) hs1 rfl (by decide) hC (c_X5_want l M s1 s0 (5 : Int32) x2.toInt64 hs1) my_X5_want ml_X5_200 rfl rfl rfl (Nat.le_of_ble_eq_true rfl) ⟨by decide, by decide⟩ dX5_checkRow_364 (fun r22 M23 => ?_)
  refine n_pop hC rfl dX5_checkRow_367 ?_
  refine n_aload_n hC 0 rfl dX5_checkRow_368 ?_
  refine n_get hC clX5 h0 27 (.int (M23.1 a0 27)) (by decide) rfl fl_X5_187 rfl dX5_checkRow_369 ?_
  refine n_if_ne hC 383 dX5_checkRow_372 (by decide) ?_ ?_
  · exact n_vret hC dX5_checkRow_383
  refine n_aload_n hC 0 rfl dX5_checkRow_375 ?_
  refine n_iload_n hC 1 rfl dX5_checkRow_376 ?_
  refine n_iload_n hC 2 rfl dX5_checkRow_377 ?_
  refine n_iload hC 3 rfl dX5_checkRow_378 ?_
  refine n_callVv (As := [.int x1, .int x2, .int x4]) (rest := []) h0 rfl (by decide) hC (c_X5_checkLocal l M23 a0 x1 x2 x4 h0) my_X5_checkLocal ml_X5_257 rfl rfl rfl (Nat.le_of_ble_eq_true rfl) ⟨by decide, by decide⟩ dX5_checkRow_380 (fun r24 M25 => ?_)
  exact n_vret hC dX5_checkRow_383
def j_X5_checkRow_360 (a0 : Nat) (x1 : Int32) (x2 : Int32) (x4 : Int32) (s0 : Nat) (M : Me) : Option (Unit × Me) := j_X5_checkRow_361 a0 x1 x2 x4 (0 : Int32) s0 M
set_option maxHeartbeats 4000000 in
set_option maxRecDepth 100000 in
theorem b_X5_checkRow_360 {p : Program} {l : Launch} {e : Env} {s : State} {m : MethodId} {args : Array Value} {below : List Frame} {meth : Method} {c : Code} {D : va_G} {T : Nat → ClassId} {b : Nat} (hC : CX p s m args meth c cX5_checkRow 8 RX5 none D T) (a0 : Nat) (x1 : Int32) (x2 : Int32) (x4 : Int32) (s0 : Nat) (h0 : kd a0 = 5) (hs0 : kd s0 = 5) (M : Me) : GN p l e (k2_rm 3 71) s m args below meth c D T b 8 eV 360 [(0, .ref (b + a0)), (1, .int x1), (2, .int x2), (4, .int x4)] [.ref (b + s0)] M (j_X5_checkRow_360 a0 x1 x2 x4 s0 M) := by
  unfold j_X5_checkRow_360
  refine n_iconst hC (0 : Int32) (by decide) dX5_checkRow_360 ?_
  exact GN.sub [0, 1, 2, 3] rfl (b_X5_checkRow_361 hC a0 x1 x2 x4 (0 : Int32) s0 h0 hs0 M)
def j_X5_checkRow_356 (a0 : Nat) (x1 : Int32) (x2 : Int32) (x4 : Int32) (s0 : Nat) (M : Me) : Option (Unit × Me) := j_X5_checkRow_361 a0 x1 x2 x4 (1 : Int32) s0 M
set_option maxHeartbeats 4000000 in
set_option maxRecDepth 100000 in
theorem b_X5_checkRow_356 {p : Program} {l : Launch} {e : Env} {s : State} {m : MethodId} {args : Array Value} {below : List Frame} {meth : Method} {c : Code} {D : va_G} {T : Nat → ClassId} {b : Nat} (hC : CX p s m args meth c cX5_checkRow 8 RX5 none D T) (a0 : Nat) (x1 : Int32) (x2 : Int32) (x4 : Int32) (s0 : Nat) (h0 : kd a0 = 5) (hs0 : kd s0 = 5) (M : Me) : GN p l e (k2_rm 3 71) s m args below meth c D T b 8 eV 356 [(0, .ref (b + a0)), (1, .int x1), (2, .int x2), (4, .int x4)] [.ref (b + s0)] M (j_X5_checkRow_356 a0 x1 x2 x4 s0 M) := by
  unfold j_X5_checkRow_356
  refine n_iconst hC (1 : Int32) (by decide) dX5_checkRow_356 ?_
  refine n_goto hC (tgt := 361) (by decide) dX5_checkRow_357 ?_
  exact GN.sub [0, 1, 2, 3] rfl (b_X5_checkRow_361 hC a0 x1 x2 x4 (1 : Int32) s0 h0 hs0 M)
def j_X5_checkRow_314 (a0 : Nat) (x1 : Int32) (x2 : Int32) (x4 : Int32) (s0 : Nat) (M : Me) : Option (Unit × Me) := cal (f_X5_in M (M.2 a0 39) (0 : Int64) (40 : Int64)) (fun r20 M21 => if r20 = (0 : Int32) then j_X5_checkRow_360 a0 x1 x2 x4 s0 M21 else cal (f_X5_in M21 (M21.2 a0 40) (0 : Int64) (1000000 : Int64)) (fun r26 M27 => if r26 = (0 : Int32) then j_X5_checkRow_360 a0 x1 x2 x4 s0 M27 else if x4 = (8 : Int32) then if (M27.1 a0 37) = (0 : Int32) then j_X5_checkRow_356 a0 x1 x2 x4 s0 M27 else j_X5_checkRow_360 a0 x1 x2 x4 s0 M27 else j_X5_checkRow_356 a0 x1 x2 x4 s0 M27))
set_option maxHeartbeats 4000000 in
set_option maxRecDepth 100000 in
theorem b_X5_checkRow_314 {p : Program} {l : Launch} {e : Env} {s : State} {m : MethodId} {args : Array Value} {below : List Frame} {meth : Method} {c : Code} {D : va_G} {T : Nat → ClassId} {b : Nat} (hC : CX p s m args meth c cX5_checkRow 8 RX5 none D T) (a0 : Nat) (x1 : Int32) (x2 : Int32) (x4 : Int32) (s0 : Nat) (h0 : kd a0 = 5) (hs0 : kd s0 = 5) (M : Me) : GN p l e (k2_rm 3 71) s m args below meth c D T b 8 eV 314 [(0, .ref (b + a0)), (1, .int x1), (2, .int x2), (4, .int x4)] [.ref (b + s0)] M (j_X5_checkRow_314 a0 x1 x2 x4 s0 M) := by
  unfold j_X5_checkRow_314
  refine n_aload_n hC 0 rfl dX5_checkRow_314 ?_
  refine n_get hC clX5 h0 39 (.long (M.2 a0 39)) (by decide) rfl fl_X5_235 rfl dX5_checkRow_315 ?_
  refine n_lconst hC (0 : Int64) (by decide) dX5_checkRow_318 ?_
  refine n_ldc2 hC (40 : Int64) kc_X5_255 dX5_checkRow_319 ?_
  refine n_callSi (As := [.long (M.2 a0 39), .long (0 : Int64), .long (40 : Int64)]) (rest := [.ref (b + s0)]) hC (c_X5_in l M (M.2 a0 39) (0 : Int64) (40 : Int64)) my_X5_in ml_X5_13 rfl rfl rfl (Nat.le_of_ble_eq_true rfl) ⟨by decide, by decide⟩ dX5_checkRow_322 (fun r20 M21 => ?_)
  refine n_if_eq hC 360 dX5_checkRow_325 (by decide) ?_ ?_
  · exact GN.sub [0, 1, 2, 3] rfl (b_X5_checkRow_360 hC a0 x1 x2 x4 s0 h0 hs0 M21)
  refine n_aload_n hC 0 rfl dX5_checkRow_328 ?_
  refine n_get hC clX5 h0 40 (.long (M21.2 a0 40)) (by decide) rfl fl_X5_239 rfl dX5_checkRow_329 ?_
  refine n_lconst hC (0 : Int64) (by decide) dX5_checkRow_332 ?_
  refine n_ldc2 hC (1000000 : Int64) kc_X5_92 dX5_checkRow_333 ?_
  refine n_callSi (As := [.long (M21.2 a0 40), .long (0 : Int64), .long (1000000 : Int64)]) (rest := [.ref (b + s0)]) hC (c_X5_in l M21 (M21.2 a0 40) (0 : Int64) (1000000 : Int64)) my_X5_in ml_X5_13 rfl rfl rfl (Nat.le_of_ble_eq_true rfl) ⟨by decide, by decide⟩ dX5_checkRow_336 (fun r26 M27 => ?_)
  refine n_if_eq hC 360 dX5_checkRow_339 (by decide) ?_ ?_
  · exact GN.sub [0, 1, 2, 3] rfl (b_X5_checkRow_360 hC a0 x1 x2 x4 s0 h0 hs0 M27)
  refine n_iload hC 3 rfl dX5_checkRow_342 ?_
  refine n_bipush hC (8 : Int32) (by decide) dX5_checkRow_344 ?_
  refine n_icmp_ne hC 356 dX5_checkRow_346 (by decide) ?_ ?_
  · exact GN.sub [0, 1, 2, 3] rfl (b_X5_checkRow_356 hC a0 x1 x2 x4 s0 h0 hs0 M27)
  refine n_aload_n hC 0 rfl dX5_checkRow_349 ?_
  refine n_get hC clX5 h0 37 (.int (M27.1 a0 37)) (by decide) rfl fl_X5_222 rfl dX5_checkRow_350 ?_
  refine n_if_ne hC 360 dX5_checkRow_353 (by decide) ?_ ?_
  · exact GN.sub [0, 1, 2, 3] rfl (b_X5_checkRow_360 hC a0 x1 x2 x4 s0 h0 hs0 M27)
  exact GN.sub [0, 1, 2, 3] rfl (b_X5_checkRow_356 hC a0 x1 x2 x4 s0 h0 hs0 M27)
def j_X5_checkRow_288 (a0 : Nat) (x1 : Int32) (x2 : Int32) (x3 : Int32) (x4 : Int32) (s0 : Int32) (s1 : Nat) (M : Me) : Option (Unit × Me) := cal (f_X5_want M s1 s0 (5 : Int32) x2.toInt64) (fun r18 M19 => if x3 = (8 : Int32) then j_X5_checkRow_314 a0 x1 x2 x4 a0 M19 else if (lg_cmp (M19.2 a0 39) (M19.2 a0 40)) = (0 : Int32) then j_X5_checkRow_314 a0 x1 x2 x4 a0 M19 else j_X5_checkRow_360 a0 x1 x2 x4 a0 M19)
set_option maxHeartbeats 4000000 in
set_option maxRecDepth 100000 in
theorem b_X5_checkRow_288 {p : Program} {l : Launch} {e : Env} {s : State} {m : MethodId} {args : Array Value} {below : List Frame} {meth : Method} {c : Code} {D : va_G} {T : Nat → ClassId} {b : Nat} (hC : CX p s m args meth c cX5_checkRow 8 RX5 none D T) (a0 : Nat) (x1 : Int32) (x2 : Int32) (x3 : Int32) (x4 : Int32) (s0 : Int32) (s1 : Nat) (h0 : kd a0 = 5) (hs1 : kd s1 = 5) (M : Me) : GN p l e (k2_rm 3 71) s m args below meth c D T b 8 eV 288 [(0, .ref (b + a0)), (1, .int x1), (2, .int x2), (3, .int x3), (4, .int x4)] [.int s0, .ref (b + s1)] M (j_X5_checkRow_288 a0 x1 x2 x3 x4 s0 s1 M) := by
  unfold j_X5_checkRow_288
  refine n_iconst hC (5 : Int32) (by decide) dX5_checkRow_288 ?_
  refine n_iload_n hC 2 rfl dX5_checkRow_289 ?_
  refine n_i2l hC dX5_checkRow_290 ?_
  refine n_callVi (As := [.int s0, .int (5 : Int32), .long x2.toInt64]) (rest := []) hs1 rfl (by decide) hC (c_X5_want l M s1 s0 (5 : Int32) x2.toInt64 hs1) my_X5_want ml_X5_200 rfl rfl rfl (Nat.le_of_ble_eq_true rfl) ⟨by decide, by decide⟩ dX5_checkRow_291 (fun r18 M19 => ?_)
  refine n_pop hC rfl dX5_checkRow_294 ?_
  refine n_aload_n hC 0 rfl dX5_checkRow_295 ?_
  refine n_iload_n hC 3 rfl dX5_checkRow_296 ?_
  refine n_bipush hC (8 : Int32) (by decide) dX5_checkRow_297 ?_
  refine n_icmp_eq hC 314 dX5_checkRow_299 (by decide) ?_ ?_
  · exact GN.sub [0, 1, 2, 4] rfl (b_X5_checkRow_314 hC a0 x1 x2 x4 a0 h0 h0 M19)
  refine n_aload_n hC 0 rfl dX5_checkRow_302 ?_
  refine n_get hC clX5 h0 39 (.long (M19.2 a0 39)) (by decide) rfl fl_X5_235 rfl dX5_checkRow_303 ?_
  refine n_aload_n hC 0 rfl dX5_checkRow_306 ?_
  refine n_get hC clX5 h0 40 (.long (M19.2 a0 40)) (by decide) rfl fl_X5_239 rfl dX5_checkRow_307 ?_
  refine n_lcmp hC dX5_checkRow_310 ?_
  refine n_if_ne hC 360 dX5_checkRow_311 (by decide) ?_ ?_
  · exact GN.sub [0, 1, 2, 4] rfl (b_X5_checkRow_360 hC a0 x1 x2 x4 a0 h0 h0 M19)
  exact GN.sub [0, 1, 2, 4] rfl (b_X5_checkRow_314 hC a0 x1 x2 x4 a0 h0 h0 M19)
def j_X5_checkRow_283 (a0 : Nat) (x1 : Int32) (x2 : Int32) (x3 : Int32) (x4 : Int32) (s0 : Nat) (M : Me) : Option (Unit × Me) := j_X5_checkRow_288 a0 x1 x2 x3 x4 (1 : Int32) s0 M
set_option maxHeartbeats 4000000 in
set_option maxRecDepth 100000 in
theorem b_X5_checkRow_283 {p : Program} {l : Launch} {e : Env} {s : State} {m : MethodId} {args : Array Value} {below : List Frame} {meth : Method} {c : Code} {D : va_G} {T : Nat → ClassId} {b : Nat} (hC : CX p s m args meth c cX5_checkRow 8 RX5 none D T) (a0 : Nat) (x1 : Int32) (x2 : Int32) (x3 : Int32) (x4 : Int32) (s0 : Nat) (h0 : kd a0 = 5) (hs0 : kd s0 = 5) (M : Me) : GN p l e (k2_rm 3 71) s m args below meth c D T b 8 eV 283 [(0, .ref (b + a0)), (1, .int x1), (2, .int x2), (3, .int x3), (4, .int x4)] [.ref (b + s0)] M (j_X5_checkRow_283 a0 x1 x2 x3 x4 s0 M) := by
  unfold j_X5_checkRow_283
  refine n_iconst hC (1 : Int32) (by decide) dX5_checkRow_283 ?_
  refine n_goto hC (tgt := 288) (by decide) dX5_checkRow_284 ?_
  exact GN.sub [0, 1, 2, 3, 4] rfl (b_X5_checkRow_288 hC a0 x1 x2 x3 x4 (1 : Int32) s0 h0 hs0 M)
def j_X5_checkRow_287 (a0 : Nat) (x1 : Int32) (x2 : Int32) (x3 : Int32) (x4 : Int32) (s0 : Nat) (M : Me) : Option (Unit × Me) := j_X5_checkRow_288 a0 x1 x2 x3 x4 (0 : Int32) s0 M
set_option maxHeartbeats 4000000 in
set_option maxRecDepth 100000 in
theorem b_X5_checkRow_287 {p : Program} {l : Launch} {e : Env} {s : State} {m : MethodId} {args : Array Value} {below : List Frame} {meth : Method} {c : Code} {D : va_G} {T : Nat → ClassId} {b : Nat} (hC : CX p s m args meth c cX5_checkRow 8 RX5 none D T) (a0 : Nat) (x1 : Int32) (x2 : Int32) (x3 : Int32) (x4 : Int32) (s0 : Nat) (h0 : kd a0 = 5) (hs0 : kd s0 = 5) (M : Me) : GN p l e (k2_rm 3 71) s m args below meth c D T b 8 eV 287 [(0, .ref (b + a0)), (1, .int x1), (2, .int x2), (3, .int x3), (4, .int x4)] [.ref (b + s0)] M (j_X5_checkRow_287 a0 x1 x2 x3 x4 s0 M) := by
  unfold j_X5_checkRow_287
  refine n_iconst hC (0 : Int32) (by decide) dX5_checkRow_287 ?_
  exact GN.sub [0, 1, 2, 3, 4] rfl (b_X5_checkRow_288 hC a0 x1 x2 x3 x4 (0 : Int32) s0 h0 hs0 M)
def j_X5_checkRow_241 (a0 : Nat) (x1 : Int32) (x2 : Int32) (x3 : Int32) (x4 : Int32) (s0 : Int32) (M : Me) : Option (Unit × Me) := if s0 = (0 : Int32) then j_X5_checkRow_283 a0 x1 x2 x3 x4 a0 M else if (lg_cmp (M.2 a0 39) (0 : Int64)) = (0 : Int32) then if (lg_cmp (M.2 a0 40) (0 : Int64)) = (0 : Int32) then if x3 = (0 : Int32) then if x4 = (0 : Int32) then if (M.1 a0 37) = (0 : Int32) then j_X5_checkRow_283 a0 x1 x2 x3 x4 a0 M else j_X5_checkRow_287 a0 x1 x2 x3 x4 a0 M else j_X5_checkRow_287 a0 x1 x2 x3 x4 a0 M else j_X5_checkRow_287 a0 x1 x2 x3 x4 a0 M else j_X5_checkRow_287 a0 x1 x2 x3 x4 a0 M else j_X5_checkRow_287 a0 x1 x2 x3 x4 a0 M
set_option maxHeartbeats 4000000 in
set_option maxRecDepth 100000 in
theorem b_X5_checkRow_241 {p : Program} {l : Launch} {e : Env} {s : State} {m : MethodId} {args : Array Value} {below : List Frame} {meth : Method} {c : Code} {D : va_G} {T : Nat → ClassId} {b : Nat} (hC : CX p s m args meth c cX5_checkRow 8 RX5 none D T) (a0 : Nat) (x1 : Int32) (x2 : Int32) (x3 : Int32) (x4 : Int32) (s0 : Int32) (h0 : kd a0 = 5) (M : Me) : GN p l e (k2_rm 3 71) s m args below meth c D T b 8 eV 241 [(0, .ref (b + a0)), (1, .int x1), (2, .int x2), (3, .int x3), (4, .int x4)] [.int s0] M (j_X5_checkRow_241 a0 x1 x2 x3 x4 s0 M) := by
  unfold j_X5_checkRow_241
  refine n_istore hC [(7, .int s0), (0, .ref (b + a0)), (1, .int x1), (2, .int x2), (3, .int x3), (4, .int x4)] (by decide) rfl dX5_checkRow_241 ?_
  refine n_aload_n hC 1 rfl dX5_checkRow_243 ?_
  refine n_iload hC 0 rfl dX5_checkRow_244 ?_
  refine n_if_eq hC 283 dX5_checkRow_246 (by decide) ?_ ?_
  · exact GN.sub [1, 2, 3, 4, 5] rfl (b_X5_checkRow_283 hC a0 x1 x2 x3 x4 a0 h0 h0 M)
  refine n_aload_n hC 1 rfl dX5_checkRow_249 ?_
  refine n_get hC clX5 h0 39 (.long (M.2 a0 39)) (by decide) rfl fl_X5_235 rfl dX5_checkRow_250 ?_
  refine n_lconst hC (0 : Int64) (by decide) dX5_checkRow_253 ?_
  refine n_lcmp hC dX5_checkRow_254 ?_
  refine n_if_ne hC 287 dX5_checkRow_255 (by decide) ?_ ?_
  · exact GN.sub [1, 2, 3, 4, 5] rfl (b_X5_checkRow_287 hC a0 x1 x2 x3 x4 a0 h0 h0 M)
  refine n_aload_n hC 1 rfl dX5_checkRow_258 ?_
  refine n_get hC clX5 h0 40 (.long (M.2 a0 40)) (by decide) rfl fl_X5_239 rfl dX5_checkRow_259 ?_
  refine n_lconst hC (0 : Int64) (by decide) dX5_checkRow_262 ?_
  refine n_lcmp hC dX5_checkRow_263 ?_
  refine n_if_ne hC 287 dX5_checkRow_264 (by decide) ?_ ?_
  · exact GN.sub [1, 2, 3, 4, 5] rfl (b_X5_checkRow_287 hC a0 x1 x2 x3 x4 a0 h0 h0 M)
  refine n_iload_n hC 4 rfl dX5_checkRow_267 ?_
  refine n_if_ne hC 287 dX5_checkRow_268 (by decide) ?_ ?_
  · exact GN.sub [1, 2, 3, 4, 5] rfl (b_X5_checkRow_287 hC a0 x1 x2 x3 x4 a0 h0 h0 M)
  refine n_iload hC 5 rfl dX5_checkRow_271 ?_
  refine n_if_ne hC 287 dX5_checkRow_273 (by decide) ?_ ?_
  · exact GN.sub [1, 2, 3, 4, 5] rfl (b_X5_checkRow_287 hC a0 x1 x2 x3 x4 a0 h0 h0 M)
  refine n_aload_n hC 1 rfl dX5_checkRow_276 ?_
  refine n_get hC clX5 h0 37 (.int (M.1 a0 37)) (by decide) rfl fl_X5_222 rfl dX5_checkRow_277 ?_
  refine n_if_ne hC 287 dX5_checkRow_280 (by decide) ?_ ?_
  · exact GN.sub [1, 2, 3, 4, 5] rfl (b_X5_checkRow_287 hC a0 x1 x2 x3 x4 a0 h0 h0 M)
  exact GN.sub [1, 2, 3, 4, 5] rfl (b_X5_checkRow_283 hC a0 x1 x2 x3 x4 a0 h0 h0 M)
def j_X5_checkRow_215 (a0 : Nat) (x1 : Int32) (x2 : Int32) (x3 : Int32) (x4 : Int32) (M : Me) : Option (Unit × Me) := chk (((M.1 a0 34) + (M.1 a0 35)) - (1 : Int32)) (ln (rf a0 23)) (if (M.1 (rf a0 23) (((M.1 a0 34) + (M.1 a0 35)) - (1 : Int32)).toNatClampNeg) = (47 : Int32) then j_X5_checkRow_241 a0 x1 x2 x3 x4 (1 : Int32) M else j_X5_checkRow_241 a0 x1 x2 x3 x4 (0 : Int32) M)
set_option maxHeartbeats 4000000 in
set_option maxRecDepth 100000 in
theorem b_X5_checkRow_215 {p : Program} {l : Launch} {e : Env} {s : State} {m : MethodId} {args : Array Value} {below : List Frame} {meth : Method} {c : Code} {D : va_G} {T : Nat → ClassId} {b : Nat} (hC : CX p s m args meth c cX5_checkRow 8 RX5 none D T) (a0 : Nat) (x1 : Int32) (x2 : Int32) (x3 : Int32) (x4 : Int32) (h0 : kd a0 = 5) (M : Me) : GN p l e (k2_rm 3 71) s m args below meth c D T b 8 eV 215 [(0, .ref (b + a0)), (1, .int x1), (2, .int x2), (3, .int x3), (4, .int x4)] [] M (j_X5_checkRow_215 a0 x1 x2 x3 x4 M) := by
  unfold j_X5_checkRow_215
  refine n_aload_n hC 0 rfl dX5_checkRow_215 ?_
  refine n_get hC clX5 h0 23 (.ref (b + (rf a0 23))) (by decide) rfl fl_X5_128 rfl dX5_checkRow_216 ?_
  refine n_aload_n hC 0 rfl dX5_checkRow_219 ?_
  refine n_get hC clX5 h0 34 (.int (M.1 a0 34)) (by decide) rfl fl_X5_226 rfl dX5_checkRow_220 ?_
  refine n_aload_n hC 0 rfl dX5_checkRow_223 ?_
  refine n_get hC clX5 h0 35 (.int (M.1 a0 35)) (by decide) rfl fl_X5_229 rfl dX5_checkRow_224 ?_
  refine n_iadd hC dX5_checkRow_227 ?_
  refine n_iconst hC (1 : Int32) (by decide) dX5_checkRow_228 ?_
  refine n_isub hC dX5_checkRow_229 ?_
  refine n_iald hC (kf_X5_23 h0) dX5_checkRow_230 (fun g17 => ?_)
  refine n_bipush hC (47 : Int32) (by decide) dX5_checkRow_231 ?_
  refine n_icmp_ne hC 240 dX5_checkRow_233 (by decide) ?_ ?_
  · refine n_iconst hC (0 : Int32) (by decide) dX5_checkRow_240 ?_
    exact GN.sub [0, 1, 2, 3, 4] rfl (b_X5_checkRow_241 hC a0 x1 x2 x3 x4 (0 : Int32) h0 M)
  refine n_iconst hC (1 : Int32) (by decide) dX5_checkRow_236 ?_
  refine n_goto hC (tgt := 241) (by decide) dX5_checkRow_237 ?_
  exact GN.sub [0, 1, 2, 3, 4] rfl (b_X5_checkRow_241 hC a0 x1 x2 x3 x4 (1 : Int32) h0 M)
def j_X5_checkRow_162 (a0 : Nat) (x1 : Int32) (x2 : Int32) (x3 : Int32) (x4 : Int32) (s0 : Int32) (s1 : Nat) (M : Me) : Option (Unit × Me) := cal (f_X5_want M s1 s0 (5 : Int32) x2.toInt64) (fun r15 M16 => if (M16.1 a0 37) = (0 : Int32) then j_X5_checkRow_215 a0 x1 x2 x3 x4 M16 else cal (f_X5_eight M16 a0 (((M16.1 a0 34) + (M16.1 a0 35)) + (4 : Int32))) (fun r28 M29 => bnd (sL M29 a0 40 r28) (fun M30 => cal (f_X5_eight M30 a0 (((M30.1 a0 34) + (M30.1 a0 35)) + (12 : Int32))) (fun r31 M32 => bnd (sL M32 a0 39 r31) (fun M33 => j_X5_checkRow_215 a0 x1 x2 x3 x4 M33)))))
set_option maxHeartbeats 4000000 in
set_option maxRecDepth 100000 in
theorem b_X5_checkRow_162 {p : Program} {l : Launch} {e : Env} {s : State} {m : MethodId} {args : Array Value} {below : List Frame} {meth : Method} {c : Code} {D : va_G} {T : Nat → ClassId} {b : Nat} (hC : CX p s m args meth c cX5_checkRow 8 RX5 none D T) (a0 : Nat) (x1 : Int32) (x2 : Int32) (x3 : Int32) (x4 : Int32) (s0 : Int32) (s1 : Nat) (h0 : kd a0 = 5) (hs1 : kd s1 = 5) (M : Me) : GN p l e (k2_rm 3 71) s m args below meth c D T b 8 eV 162 [(0, .ref (b + a0)), (1, .int x1), (2, .int x2), (3, .int x3), (4, .int x4)] [.int s0, .ref (b + s1)] M (j_X5_checkRow_162 a0 x1 x2 x3 x4 s0 s1 M) := by
  unfold j_X5_checkRow_162
  refine n_iconst hC (5 : Int32) (by decide) dX5_checkRow_162 ?_
  refine n_iload_n hC 2 rfl dX5_checkRow_163 ?_
  refine n_i2l hC dX5_checkRow_164 ?_
  refine n_callVi (As := [.int s0, .int (5 : Int32), .long x2.toInt64]) (rest := []) hs1 rfl (by decide) hC (c_X5_want l M s1 s0 (5 : Int32) x2.toInt64 hs1) my_X5_want ml_X5_200 rfl rfl rfl (Nat.le_of_ble_eq_true rfl) ⟨by decide, by decide⟩ dX5_checkRow_165 (fun r15 M16 => ?_)
  refine n_pop hC rfl dX5_checkRow_168 ?_
  refine n_aload_n hC 0 rfl dX5_checkRow_169 ?_
  refine n_get hC clX5 h0 37 (.int (M16.1 a0 37)) (by decide) rfl fl_X5_222 rfl dX5_checkRow_170 ?_
  refine n_if_eq hC 215 dX5_checkRow_173 (by decide) ?_ ?_
  · exact GN.sub [0, 1, 2, 3, 4] rfl (b_X5_checkRow_215 hC a0 x1 x2 x3 x4 h0 M16)
  refine n_aload_n hC 0 rfl dX5_checkRow_176 ?_
  refine n_aload_n hC 0 rfl dX5_checkRow_177 ?_
  refine n_aload_n hC 0 rfl dX5_checkRow_178 ?_
  refine n_get hC clX5 h0 34 (.int (M16.1 a0 34)) (by decide) rfl fl_X5_226 rfl dX5_checkRow_179 ?_
  refine n_aload_n hC 0 rfl dX5_checkRow_182 ?_
  refine n_get hC clX5 h0 35 (.int (M16.1 a0 35)) (by decide) rfl fl_X5_229 rfl dX5_checkRow_183 ?_
  refine n_iadd hC dX5_checkRow_186 ?_
  refine n_iconst hC (4 : Int32) (by decide) dX5_checkRow_187 ?_
  refine n_iadd hC dX5_checkRow_188 ?_
  refine n_callVl (As := [.int (((M16.1 a0 34) + (M16.1 a0 35)) + (4 : Int32))]) (rest := [.ref (b + a0)]) h0 rfl (by decide) hC (c_X5_eight l M16 a0 (((M16.1 a0 34) + (M16.1 a0 35)) + (4 : Int32)) h0) my_X5_eight ml_X5_252 rfl rfl rfl (Nat.le_of_ble_eq_true rfl) ⟨by decide, by decide⟩ dX5_checkRow_189 (fun r28 M29 => ?_)
  refine n_putL hC clX5 h0 40 (by decide) rfl rfl rfl fl_X5_239 dX5_checkRow_192 (fun M30 => ?_)
  refine n_aload_n hC 0 rfl dX5_checkRow_195 ?_
  refine n_aload_n hC 0 rfl dX5_checkRow_196 ?_
  refine n_aload_n hC 0 rfl dX5_checkRow_197 ?_
  refine n_get hC clX5 h0 34 (.int (M30.1 a0 34)) (by decide) rfl fl_X5_226 rfl dX5_checkRow_198 ?_
  refine n_aload_n hC 0 rfl dX5_checkRow_201 ?_
  refine n_get hC clX5 h0 35 (.int (M30.1 a0 35)) (by decide) rfl fl_X5_229 rfl dX5_checkRow_202 ?_
  refine n_iadd hC dX5_checkRow_205 ?_
  refine n_bipush hC (12 : Int32) (by decide) dX5_checkRow_206 ?_
  refine n_iadd hC dX5_checkRow_208 ?_
  refine n_callVl (As := [.int (((M30.1 a0 34) + (M30.1 a0 35)) + (12 : Int32))]) (rest := [.ref (b + a0)]) h0 rfl (by decide) hC (c_X5_eight l M30 a0 (((M30.1 a0 34) + (M30.1 a0 35)) + (12 : Int32)) h0) my_X5_eight ml_X5_252 rfl rfl rfl (Nat.le_of_ble_eq_true rfl) ⟨by decide, by decide⟩ dX5_checkRow_209 (fun r31 M32 => ?_)
  refine n_putL hC clX5 h0 39 (by decide) rfl rfl rfl fl_X5_235 dX5_checkRow_212 (fun M33 => ?_)
  exact GN.sub [0, 1, 2, 3, 4] rfl (b_X5_checkRow_215 hC a0 x1 x2 x3 x4 h0 M33)
def j_X5_checkRow_145 (a0 : Nat) (x1 : Int32) (x2 : Int32) (x3 : Int32) (x4 : Int32) (s0 : Int32) (M : Me) : Option (Unit × Me) := if s0 = (M.1 a0 37) then j_X5_checkRow_162 a0 x1 x2 x3 x4 (1 : Int32) a0 M else j_X5_checkRow_162 a0 x1 x2 x3 x4 (0 : Int32) a0 M
set_option maxHeartbeats 4000000 in
set_option maxRecDepth 100000 in
theorem b_X5_checkRow_145 {p : Program} {l : Launch} {e : Env} {s : State} {m : MethodId} {args : Array Value} {below : List Frame} {meth : Method} {c : Code} {D : va_G} {T : Nat → ClassId} {b : Nat} (hC : CX p s m args meth c cX5_checkRow 8 RX5 none D T) (a0 : Nat) (x1 : Int32) (x2 : Int32) (x3 : Int32) (x4 : Int32) (s0 : Int32) (h0 : kd a0 = 5) (M : Me) : GN p l e (k2_rm 3 71) s m args below meth c D T b 8 eV 145 [(0, .ref (b + a0)), (1, .int x1), (2, .int x2), (3, .int x3), (4, .int x4)] [.int s0] M (j_X5_checkRow_145 a0 x1 x2 x3 x4 s0 M) := by
  unfold j_X5_checkRow_145
  refine n_istore hC [(6, .int s0), (0, .ref (b + a0)), (1, .int x1), (2, .int x2), (3, .int x3), (4, .int x4)] (by decide) rfl dX5_checkRow_145 ?_
  refine n_aload_n hC 1 rfl dX5_checkRow_147 ?_
  refine n_iload hC 0 rfl dX5_checkRow_148 ?_
  refine n_aload_n hC 1 rfl dX5_checkRow_150 ?_
  refine n_get hC clX5 h0 37 (.int (M.1 a0 37)) (by decide) rfl fl_X5_222 rfl dX5_checkRow_151 ?_
  refine n_icmp_ne hC 161 dX5_checkRow_154 (by decide) ?_ ?_
  · refine n_iconst hC (0 : Int32) (by decide) dX5_checkRow_161 ?_
    exact GN.sub [1, 2, 3, 4, 5] rfl (b_X5_checkRow_162 hC a0 x1 x2 x3 x4 (0 : Int32) a0 h0 h0 M)
  refine n_iconst hC (1 : Int32) (by decide) dX5_checkRow_157 ?_
  refine n_goto hC (tgt := 162) (by decide) dX5_checkRow_158 ?_
  exact GN.sub [1, 2, 3, 4, 5] rfl (b_X5_checkRow_162 hC a0 x1 x2 x3 x4 (1 : Int32) a0 h0 h0 M)
def j_X5_checkRow_144 (a0 : Nat) (x1 : Int32) (x2 : Int32) (x3 : Int32) (x4 : Int32) (M : Me) : Option (Unit × Me) := j_X5_checkRow_145 a0 x1 x2 x3 x4 (0 : Int32) M
set_option maxHeartbeats 4000000 in
set_option maxRecDepth 100000 in
theorem b_X5_checkRow_144 {p : Program} {l : Launch} {e : Env} {s : State} {m : MethodId} {args : Array Value} {below : List Frame} {meth : Method} {c : Code} {D : va_G} {T : Nat → ClassId} {b : Nat} (hC : CX p s m args meth c cX5_checkRow 8 RX5 none D T) (a0 : Nat) (x1 : Int32) (x2 : Int32) (x3 : Int32) (x4 : Int32) (h0 : kd a0 = 5) (M : Me) : GN p l e (k2_rm 3 71) s m args below meth c D T b 8 eV 144 [(0, .ref (b + a0)), (1, .int x1), (2, .int x2), (3, .int x3), (4, .int x4)] [] M (j_X5_checkRow_144 a0 x1 x2 x3 x4 M) := by
  unfold j_X5_checkRow_144
  refine n_iconst hC (0 : Int32) (by decide) dX5_checkRow_144 ?_
  exact GN.sub [0, 1, 2, 3, 4] rfl (b_X5_checkRow_145 hC a0 x1 x2 x3 x4 (0 : Int32) h0 M)
def j_X5_checkRow_108 (a0 : Nat) (x1 : Int32) (x2 : Int32) (x3 : Int32) (x4 : Int32) (s0 : Int32) (s1 : Nat) (M : Me) : Option (Unit × Me) := cal (f_X5_want M s1 s0 (4 : Int32) x2.toInt64) (fun r13 M14 => if r13 = (0 : Int32) then some ((), M14) else if (lg_cmp (M14.2 a0 39) (4294967295 : Int64)) = (0 : Int32) then if (lg_cmp (M14.2 a0 40) (4294967295 : Int64)) = (0 : Int32) then j_X5_checkRow_145 a0 x1 x2 x3 x4 (1 : Int32) M14 else j_X5_checkRow_144 a0 x1 x2 x3 x4 M14 else j_X5_checkRow_144 a0 x1 x2 x3 x4 M14)
set_option maxHeartbeats 4000000 in
set_option maxRecDepth 100000 in
theorem b_X5_checkRow_108 {p : Program} {l : Launch} {e : Env} {s : State} {m : MethodId} {args : Array Value} {below : List Frame} {meth : Method} {c : Code} {D : va_G} {T : Nat → ClassId} {b : Nat} (hC : CX p s m args meth c cX5_checkRow 8 RX5 none D T) (a0 : Nat) (x1 : Int32) (x2 : Int32) (x3 : Int32) (x4 : Int32) (s0 : Int32) (s1 : Nat) (h0 : kd a0 = 5) (hs1 : kd s1 = 5) (M : Me) : GN p l e (k2_rm 3 71) s m args below meth c D T b 8 eV 108 [(0, .ref (b + a0)), (1, .int x1), (2, .int x2), (3, .int x3), (4, .int x4)] [.int s0, .ref (b + s1)] M (j_X5_checkRow_108 a0 x1 x2 x3 x4 s0 s1 M) := by
  unfold j_X5_checkRow_108
  refine n_iconst hC (4 : Int32) (by decide) dX5_checkRow_108 ?_
  refine n_iload_n hC 2 rfl dX5_checkRow_109 ?_
  refine n_i2l hC dX5_checkRow_110 ?_
  refine n_callVi (As := [.int s0, .int (4 : Int32), .long x2.toInt64]) (rest := []) hs1 rfl (by decide) hC (c_X5_want l M s1 s0 (4 : Int32) x2.toInt64 hs1) my_X5_want ml_X5_200 rfl rfl rfl (Nat.le_of_ble_eq_true rfl) ⟨by decide, by decide⟩ dX5_checkRow_111 (fun r13 M14 => ?_)
  refine n_if_ne hC 118 dX5_checkRow_114 (by decide) ?_ ?_
  · refine n_aload_n hC 0 rfl dX5_checkRow_118 ?_
    refine n_get hC clX5 h0 39 (.long (M14.2 a0 39)) (by decide) rfl fl_X5_235 rfl dX5_checkRow_119 ?_
    refine n_ldc2 hC (4294967295 : Int64) kc_X5_147 dX5_checkRow_122 ?_
    refine n_lcmp hC dX5_checkRow_125 ?_
    refine n_if_ne hC 144 dX5_checkRow_126 (by decide) ?_ ?_
    · exact GN.sub [0, 1, 2, 3, 4] rfl (b_X5_checkRow_144 hC a0 x1 x2 x3 x4 h0 M14)
    refine n_aload_n hC 0 rfl dX5_checkRow_129 ?_
    refine n_get hC clX5 h0 40 (.long (M14.2 a0 40)) (by decide) rfl fl_X5_239 rfl dX5_checkRow_130 ?_
    refine n_ldc2 hC (4294967295 : Int64) kc_X5_147 dX5_checkRow_133 ?_
    refine n_lcmp hC dX5_checkRow_136 ?_
    refine n_if_ne hC 144 dX5_checkRow_137 (by decide) ?_ ?_
    · exact GN.sub [0, 1, 2, 3, 4] rfl (b_X5_checkRow_144 hC a0 x1 x2 x3 x4 h0 M14)
    refine n_iconst hC (1 : Int32) (by decide) dX5_checkRow_140 ?_
    refine n_goto hC (tgt := 145) (by decide) dX5_checkRow_141 ?_
    exact GN.sub [0, 1, 2, 3, 4] rfl (b_X5_checkRow_145 hC a0 x1 x2 x3 x4 (1 : Int32) h0 M14)
  exact n_vret hC dX5_checkRow_117
def j_X5_checkRow_107 (a0 : Nat) (x1 : Int32) (x2 : Int32) (x3 : Int32) (x4 : Int32) (s0 : Nat) (M : Me) : Option (Unit × Me) := j_X5_checkRow_108 a0 x1 x2 x3 x4 (0 : Int32) s0 M
set_option maxHeartbeats 4000000 in
set_option maxRecDepth 100000 in
theorem b_X5_checkRow_107 {p : Program} {l : Launch} {e : Env} {s : State} {m : MethodId} {args : Array Value} {below : List Frame} {meth : Method} {c : Code} {D : va_G} {T : Nat → ClassId} {b : Nat} (hC : CX p s m args meth c cX5_checkRow 8 RX5 none D T) (a0 : Nat) (x1 : Int32) (x2 : Int32) (x3 : Int32) (x4 : Int32) (s0 : Nat) (h0 : kd a0 = 5) (hs0 : kd s0 = 5) (M : Me) : GN p l e (k2_rm 3 71) s m args below meth c D T b 8 eV 107 [(0, .ref (b + a0)), (1, .int x1), (2, .int x2), (3, .int x3), (4, .int x4)] [.ref (b + s0)] M (j_X5_checkRow_107 a0 x1 x2 x3 x4 s0 M) := by
  unfold j_X5_checkRow_107
  refine n_iconst hC (0 : Int32) (by decide) dX5_checkRow_107 ?_
  exact GN.sub [0, 1, 2, 3, 4] rfl (b_X5_checkRow_108 hC a0 x1 x2 x3 x4 (0 : Int32) s0 h0 hs0 M)
def j_X5_checkRow_98 (a0 : Nat) (x1 : Int32) (x2 : Int32) (x3 : Int32) (x4 : Int32) (x5 : Int32) (s0 : Nat) (M : Me) : Option (Unit × Me) := if x5 = (0 : Int32) then j_X5_checkRow_107 a0 x1 x2 x3 x4 s0 M else j_X5_checkRow_108 a0 x1 x2 x3 x4 (1 : Int32) s0 M
set_option maxHeartbeats 4000000 in
set_option maxRecDepth 100000 in
theorem b_X5_checkRow_98 {p : Program} {l : Launch} {e : Env} {s : State} {m : MethodId} {args : Array Value} {below : List Frame} {meth : Method} {c : Code} {D : va_G} {T : Nat → ClassId} {b : Nat} (hC : CX p s m args meth c cX5_checkRow 8 RX5 none D T) (a0 : Nat) (x1 : Int32) (x2 : Int32) (x3 : Int32) (x4 : Int32) (x5 : Int32) (s0 : Nat) (h0 : kd a0 = 5) (hs0 : kd s0 = 5) (M : Me) : GN p l e (k2_rm 3 71) s m args below meth c D T b 8 eV 98 [(0, .ref (b + a0)), (1, .int x1), (2, .int x2), (3, .int x3), (4, .int x4), (5, .int x5)] [.ref (b + s0)] M (j_X5_checkRow_98 a0 x1 x2 x3 x4 x5 s0 M) := by
  unfold j_X5_checkRow_98
  refine n_iload hC 5 rfl dX5_checkRow_98 ?_
  refine n_if_eq hC 107 dX5_checkRow_100 (by decide) ?_ ?_
  · exact GN.sub [0, 1, 2, 3, 4] rfl (b_X5_checkRow_107 hC a0 x1 x2 x3 x4 s0 h0 hs0 M)
  refine n_iconst hC (1 : Int32) (by decide) dX5_checkRow_103 ?_
  refine n_goto hC (tgt := 108) (by decide) dX5_checkRow_104 ?_
  exact GN.sub [0, 1, 2, 3, 4] rfl (b_X5_checkRow_108 hC a0 x1 x2 x3 x4 (1 : Int32) s0 h0 hs0 M)
def j_X5_checkRow_71 (a0 : Nat) (x1 : Int32) (x2 : Int32) (x3 : Int32) (x4 : Int32) (x5 : Int32) (s0 : Nat) (M : Me) : Option (Unit × Me) := cal (f_X5_in M (((M.1 a0 35)).toInt64) (1 : Int64) (16 : Int64)) (fun r11 M12 => if r11 = (0 : Int32) then j_X5_checkRow_107 a0 x1 x2 x3 x4 s0 M12 else if x4 = (0 : Int32) then j_X5_checkRow_98 a0 x1 x2 x3 x4 x5 s0 M12 else if x4 = (8 : Int32) then j_X5_checkRow_98 a0 x1 x2 x3 x4 x5 s0 M12 else j_X5_checkRow_107 a0 x1 x2 x3 x4 s0 M12)
set_option maxHeartbeats 4000000 in
set_option maxRecDepth 100000 in
theorem b_X5_checkRow_71 {p : Program} {l : Launch} {e : Env} {s : State} {m : MethodId} {args : Array Value} {below : List Frame} {meth : Method} {c : Code} {D : va_G} {T : Nat → ClassId} {b : Nat} (hC : CX p s m args meth c cX5_checkRow 8 RX5 none D T) (a0 : Nat) (x1 : Int32) (x2 : Int32) (x3 : Int32) (x4 : Int32) (x5 : Int32) (s0 : Nat) (h0 : kd a0 = 5) (hs0 : kd s0 = 5) (M : Me) : GN p l e (k2_rm 3 71) s m args below meth c D T b 8 eV 71 [(0, .ref (b + a0)), (1, .int x1), (2, .int x2), (3, .int x3), (4, .int x4), (5, .int x5)] [.ref (b + s0)] M (j_X5_checkRow_71 a0 x1 x2 x3 x4 x5 s0 M) := by
  unfold j_X5_checkRow_71
  refine n_aload_n hC 0 rfl dX5_checkRow_71 ?_
  refine n_get hC clX5 h0 35 (.int (M.1 a0 35)) (by decide) rfl fl_X5_229 rfl dX5_checkRow_72 ?_
  refine n_i2l hC dX5_checkRow_75 ?_
  refine n_lconst hC (1 : Int64) (by decide) dX5_checkRow_76 ?_
  refine n_ldc2 hC (16 : Int64) kc_X5_135 dX5_checkRow_77 ?_
  refine n_callSi (As := [.long ((M.1 a0 35)).toInt64, .long (1 : Int64), .long (16 : Int64)]) (rest := [.ref (b + s0)]) hC (c_X5_in l M (((M.1 a0 35)).toInt64) (1 : Int64) (16 : Int64)) my_X5_in ml_X5_13 rfl rfl rfl (Nat.le_of_ble_eq_true rfl) ⟨by decide, by decide⟩ dX5_checkRow_80 (fun r11 M12 => ?_)
  refine n_if_eq hC 107 dX5_checkRow_83 (by decide) ?_ ?_
  · exact GN.sub [0, 1, 2, 3, 4] rfl (b_X5_checkRow_107 hC a0 x1 x2 x3 x4 s0 h0 hs0 M12)
  refine n_iload hC 4 rfl dX5_checkRow_86 ?_
  refine n_if_eq hC 98 dX5_checkRow_88 (by decide) ?_ ?_
  · exact GN.sub [0, 1, 2, 3, 4, 5] rfl (b_X5_checkRow_98 hC a0 x1 x2 x3 x4 x5 s0 h0 hs0 M12)
  refine n_iload hC 4 rfl dX5_checkRow_91 ?_
  refine n_bipush hC (8 : Int32) (by decide) dX5_checkRow_93 ?_
  refine n_icmp_ne hC 107 dX5_checkRow_95 (by decide) ?_ ?_
  · exact GN.sub [0, 1, 2, 3, 4] rfl (b_X5_checkRow_107 hC a0 x1 x2 x3 x4 s0 h0 hs0 M12)
  exact GN.sub [0, 1, 2, 3, 4, 5] rfl (b_X5_checkRow_98 hC a0 x1 x2 x3 x4 x5 s0 h0 hs0 M12)
def f_X5_checkRow (M : Me) (a0 : Nat) (x1 : Int32) : Option (Unit × Me) := chk x1 (ln (rf a0 33)) (bndV (M.1 (rf a0 33) x1.toNatClampNeg) (fun v2 => cal (f_X5_layRow M a0 v2) (fun _ M4 => cal (f_X5_two M4 a0 (v2 + (10 : Int32))) (fun r5 M6 => cal (f_X5_two M6 a0 (v2 + (8 : Int32))) (fun r7 M8 => cal (f_X5_hasParts M8 a0 ((M8.1 a0 34) + (M8.1 a0 35)) (((M8.1 a0 34) + (M8.1 a0 35)) + (M8.1 a0 36))) (fun r9 M10 => if r5 = (0 : Int32) then j_X5_checkRow_71 a0 x1 v2 r5 r7 r9 a0 M10 else if r5 = (8 : Int32) then j_X5_checkRow_71 a0 x1 v2 r5 r7 r9 a0 M10 else j_X5_checkRow_107 a0 x1 v2 r5 r7 a0 M10))))))
set_option maxHeartbeats 4000000 in
set_option maxRecDepth 100000 in
theorem c_X5_checkRow (l : Launch) (M : Me) (a0 : Nat) (x1 : Int32) (h0 : kd a0 = 5) : CN l yX5_checkRow cX5_checkRow 8 none (k2_rm 3 71) eV (fun b => [.ref (b + a0), .int x1]) M (f_X5_checkRow M a0 x1) := by
  refine CN.of RX5 (fun b => [(0, .ref (b + a0)), (1, .int x1)]) (by decide) rfl (fun b => Nat.le_of_ble_eq_true rfl) (fun b => rfl) ?_
  intro p e s m args below meth c D T b hC
  unfold f_X5_checkRow
  refine n_aload_n hC 0 rfl dX5_checkRow_0 ?_
  refine n_get hC clX5 h0 33 (.ref (b + (rf a0 33))) (by decide) rfl fl_X5_216 rfl dX5_checkRow_1 ?_
  refine n_iload_n hC 1 rfl dX5_checkRow_4 ?_
  refine n_iald hC (kf_X5_33 h0) dX5_checkRow_5 (fun g1 => ?_)
  refine n_istB_n hC rfl (fun v2 => [(2, .int v2), (0, .ref (b + a0)), (1, .int x1)]) (by decide) (fun _ => rfl) dX5_checkRow_6 (fun v2 => ?_)
  refine n_aload_n hC 1 rfl dX5_checkRow_7 ?_
  refine n_iload_n hC 0 rfl dX5_checkRow_8 ?_
  refine n_callVv (As := [.int v2]) (rest := []) h0 rfl (by decide) hC (c_X5_layRow l M a0 v2 h0) my_X5_layRow ml_X5_245 rfl rfl rfl (Nat.le_of_ble_eq_true rfl) ⟨by decide, by decide⟩ dX5_checkRow_9 (fun r3 M4 => ?_)
  refine n_aload_n hC 1 rfl dX5_checkRow_12 ?_
  refine n_iload_n hC 0 rfl dX5_checkRow_13 ?_
  refine n_bipush hC (10 : Int32) (by decide) dX5_checkRow_14 ?_
  refine n_iadd hC dX5_checkRow_16 ?_
  refine n_callVi (As := [.int (v2 + (10 : Int32))]) (rest := []) h0 rfl (by decide) hC (c_X5_two l M4 a0 (v2 + (10 : Int32)) h0) my_X5_two ml_X5_193 rfl rfl rfl (Nat.le_of_ble_eq_true rfl) ⟨by decide, by decide⟩ dX5_checkRow_17 (fun r5 M6 => ?_)
  refine n_istore_n hC rfl [(3, .int r5), (2, .int v2), (0, .ref (b + a0)), (1, .int x1)] (by decide) rfl dX5_checkRow_20 ?_
  refine n_aload_n hC 2 rfl dX5_checkRow_21 ?_
  refine n_iload_n hC 1 rfl dX5_checkRow_22 ?_
  refine n_bipush hC (8 : Int32) (by decide) dX5_checkRow_23 ?_
  refine n_iadd hC dX5_checkRow_25 ?_
  refine n_callVi (As := [.int (v2 + (8 : Int32))]) (rest := []) h0 rfl (by decide) hC (c_X5_two l M6 a0 (v2 + (8 : Int32)) h0) my_X5_two ml_X5_193 rfl rfl rfl (Nat.le_of_ble_eq_true rfl) ⟨by decide, by decide⟩ dX5_checkRow_26 (fun r7 M8 => ?_)
  refine n_istore hC [(4, .int r7), (3, .int r5), (2, .int v2), (0, .ref (b + a0)), (1, .int x1)] (by decide) rfl dX5_checkRow_29 ?_
  refine n_aload_n hC 3 rfl dX5_checkRow_31 ?_
  refine n_aload_n hC 3 rfl dX5_checkRow_32 ?_
  refine n_get hC clX5 h0 34 (.int (M8.1 a0 34)) (by decide) rfl fl_X5_226 rfl dX5_checkRow_33 ?_
  refine n_aload_n hC 3 rfl dX5_checkRow_36 ?_
  refine n_get hC clX5 h0 35 (.int (M8.1 a0 35)) (by decide) rfl fl_X5_229 rfl dX5_checkRow_37 ?_
  refine n_iadd hC dX5_checkRow_40 ?_
  refine n_aload_n hC 3 rfl dX5_checkRow_41 ?_
  refine n_get hC clX5 h0 34 (.int (M8.1 a0 34)) (by decide) rfl fl_X5_226 rfl dX5_checkRow_42 ?_
  refine n_aload_n hC 3 rfl dX5_checkRow_45 ?_
  refine n_get hC clX5 h0 35 (.int (M8.1 a0 35)) (by decide) rfl fl_X5_229 rfl dX5_checkRow_46 ?_
  refine n_iadd hC dX5_checkRow_49 ?_
  refine n_aload_n hC 3 rfl dX5_checkRow_50 ?_
  refine n_get hC clX5 h0 36 (.int (M8.1 a0 36)) (by decide) rfl fl_X5_232 rfl dX5_checkRow_51 ?_
  refine n_iadd hC dX5_checkRow_54 ?_
  refine n_callVi (As := [.int ((M8.1 a0 34) + (M8.1 a0 35)), .int (((M8.1 a0 34) + (M8.1 a0 35)) + (M8.1 a0 36))]) (rest := []) h0 rfl (by decide) hC (c_X5_hasParts l M8 a0 ((M8.1 a0 34) + (M8.1 a0 35)) (((M8.1 a0 34) + (M8.1 a0 35)) + (M8.1 a0 36)) h0) my_X5_hasParts ml_X5_248 rfl rfl rfl (Nat.le_of_ble_eq_true rfl) ⟨by decide, by decide⟩ dX5_checkRow_55 (fun r9 M10 => ?_)
  refine n_istore hC [(5, .int r9), (4, .int r7), (3, .int r5), (2, .int v2), (0, .ref (b + a0)), (1, .int x1)] (by decide) rfl dX5_checkRow_58 ?_
  refine n_aload_n hC 4 rfl dX5_checkRow_60 ?_
  refine n_iload_n hC 2 rfl dX5_checkRow_61 ?_
  refine n_if_eq hC 71 dX5_checkRow_62 (by decide) ?_ ?_
  · exact GN.sub [4, 5, 3, 2, 1, 0] rfl (b_X5_checkRow_71 hC a0 x1 v2 r5 r7 r9 a0 h0 h0 M10)
  refine n_iload_n hC 2 rfl dX5_checkRow_65 ?_
  refine n_bipush hC (8 : Int32) (by decide) dX5_checkRow_66 ?_
  refine n_icmp_ne hC 107 dX5_checkRow_68 (by decide) ?_ ?_
  · exact GN.sub [4, 5, 3, 2, 1] rfl (b_X5_checkRow_107 hC a0 x1 v2 r5 r7 a0 h0 h0 M10)
  exact GN.sub [4, 5, 3, 2, 1, 0] rfl (b_X5_checkRow_71 hC a0 x1 v2 r5 r7 r9 a0 h0 h0 M10)
def g_X5_takeRow_201 (kx : Int32 → Me → Option (Unit × Me)) (kb : Int32 × Me → Option (Unit × Me)) (a0 : Nat) (x1 : Int32) (x2 : Int32) (x3 : Int32) (x4 : Int32) (x6 : Int32) (M : Me) : Option (Unit × Me) := if (M.1 a0 35) ≤ x6 then kx x6 M else chk ((M.1 a0 34) + x6) (ln (rf a0 23)) (chk (((16 : Int32) * x1) + x6) (ln (rf a0 5)) (bnd (sI M (rf a0 5) (((16 : Int32) * x1) + x6).toNatClampNeg (M.1 (rf a0 23) ((M.1 a0 34) + x6).toNatClampNeg)) (fun M27 => bndV (x6 + (1 : Int32)) (fun v28 => kb (v28, M27)))))
set_option maxHeartbeats 4000000 in
set_option maxRecDepth 100000 in
theorem b_X5_takeRow_201_g {p : Program} {l : Launch} {e : Env} {s : State} {m : MethodId} {args : Array Value} {below : List Frame} {meth : Method} {c : Code} {D : va_G} {T : Nat → ClassId} {b : Nat} (hC : CX p s m args meth c cX5_takeRow 9 RX5 none D T) (a0 : Nat) (x1 : Int32) (x2 : Int32) (x3 : Int32) (x4 : Int32) (x6 : Int32) (h0 : kd a0 = 5) (kx : Int32 → Me → Option (Unit × Me)) (hkx : ∀ (x6 : Int32) (M : Me), GN p l e (k2_rm 3 63) s m args below meth c D T b 9 eV 240 [(0, .ref (b + a0)), (1, .int x1), (2, .int x2), (3, .int x3), (4, .int x4)] [] M (kx x6 M)) (kb : Int32 × Me → Option (Unit × Me)) (hkb : ∀ z : Int32 × Me, GN p l e (k2_rm 3 63) s m args below meth c D T b 9 eV 201 [(0, .ref (b + a0)), (1, .int x1), (2, .int x2), (3, .int x3), (4, .int x4), (6, .int z.1)] [] z.2 (kb z)) (M : Me) : GN p l e (k2_rm 3 63) s m args below meth c D T b 9 eV 201 [(0, .ref (b + a0)), (1, .int x1), (2, .int x2), (3, .int x3), (4, .int x4), (6, .int x6)] [] M (g_X5_takeRow_201 kx kb a0 x1 x2 x3 x4 x6 M) := by
  unfold g_X5_takeRow_201
  refine n_iload hC 5 rfl dX5_takeRow_201 ?_
  refine n_aload_n hC 0 rfl dX5_takeRow_203 ?_
  refine n_get hC clX5 h0 35 (.int (M.1 a0 35)) (by decide) rfl fl_X5_229 rfl dX5_takeRow_204 ?_
  refine n_icmp_ge hC 240 dX5_takeRow_207 (by decide) ?_ ?_
  · exact GN.sub [0, 1, 2, 3, 4] rfl (hkx x6 M)
  refine n_aload_n hC 0 rfl dX5_takeRow_210 ?_
  refine n_get hC clX5 h0 5 (.ref (b + (rf a0 5))) (by decide) rfl fl_X5_78 rfl dX5_takeRow_211 ?_
  refine n_bipush hC (16 : Int32) (by decide) dX5_takeRow_214 ?_
  refine n_iload_n hC 1 rfl dX5_takeRow_216 ?_
  refine n_imul hC dX5_takeRow_217 ?_
  refine n_iload hC 5 rfl dX5_takeRow_218 ?_
  refine n_iadd hC dX5_takeRow_220 ?_
  refine n_aload_n hC 0 rfl dX5_takeRow_221 ?_
  refine n_get hC clX5 h0 23 (.ref (b + (rf a0 23))) (by decide) rfl fl_X5_128 rfl dX5_takeRow_222 ?_
  refine n_aload_n hC 0 rfl dX5_takeRow_225 ?_
  refine n_get hC clX5 h0 34 (.int (M.1 a0 34)) (by decide) rfl fl_X5_226 rfl dX5_takeRow_226 ?_
  refine n_iload hC 5 rfl dX5_takeRow_229 ?_
  refine n_iadd hC dX5_takeRow_231 ?_
  refine n_iald hC (kf_X5_23 h0) dX5_takeRow_232 (fun g26 => ?_)
  refine n_iast hC (kf_X5_5 h0) dX5_takeRow_233 (fun M27 => ?_)
  refine n_iincB hC (1 : Int32) (by decide) (fun v28 => [(6, .int v28), (0, .ref (b + a0)), (1, .int x1), (2, .int x2), (3, .int x3), (4, .int x4)]) 5 rfl (by decide) (fun _ => rfl) dX5_takeRow_234 (fun v28 => ?_)
  refine n_goto hC (tgt := 201) (by decide) dX5_takeRow_237 ?_
  exact GN.sub [1, 2, 3, 4, 5, 0] rfl (hkb (v28, M27))
def l_X5_takeRow_201 (kx : Int32 → Me → Option (Unit × Me)) (a0 : Nat) (x1 : Int32) (x2 : Int32) (x3 : Int32) (x4 : Int32) (x6 : Int32) (M : Me) : Option (Unit × Me) := lp (fun kb z => g_X5_takeRow_201 kx kb a0 x1 x2 x3 x4 z.1 z.2) FU (x6, M)
set_option maxHeartbeats 4000000 in
set_option maxRecDepth 100000 in
theorem b_X5_takeRow_201 {p : Program} {l : Launch} {e : Env} {s : State} {m : MethodId} {args : Array Value} {below : List Frame} {meth : Method} {c : Code} {D : va_G} {T : Nat → ClassId} {b : Nat} (hC : CX p s m args meth c cX5_takeRow 9 RX5 none D T) (a0 : Nat) (x1 : Int32) (x2 : Int32) (x3 : Int32) (x4 : Int32) (x6 : Int32) (h0 : kd a0 = 5) (kx : Int32 → Me → Option (Unit × Me)) (hkx : ∀ (x6 : Int32) (M : Me), GN p l e (k2_rm 3 63) s m args below meth c D T b 9 eV 240 [(0, .ref (b + a0)), (1, .int x1), (2, .int x2), (3, .int x3), (4, .int x4)] [] M (kx x6 M)) (M : Me) : GN p l e (k2_rm 3 63) s m args below meth c D T b 9 eV 201 [(0, .ref (b + a0)), (1, .int x1), (2, .int x2), (3, .int x3), (4, .int x4), (6, .int x6)] [] M (l_X5_takeRow_201 kx a0 x1 x2 x3 x4 x6 M) := by
  exact n_loop (σ := Int32 × Me) (fun z => [(0, .ref (b + a0)), (1, .int x1), (2, .int x2), (3, .int x3), (4, .int x4), (6, .int z.1)]) (fun z => z.2) (fun kb hkb z => b_X5_takeRow_201_g hC a0 x1 x2 x3 x4 z.1 h0 kx hkx kb hkb z.2) FU (x6, M)
def g_X5_takeRow_352 (kx : Int32 → Me → Option (Unit × Me)) (kb : Int32 × Me → Option (Unit × Me)) (a0 : Nat) (x1 : Int32) (x2 : Int32) (x4 : Int32) (x6 : Int32) (x7 : Int32) (x8 : Int32) (M : Me) : Option (Unit × Me) := chk x7 (ln (rf a0 12)) (if (M.1 (rf a0 12) x7.toNatClampNeg) ≤ x8 then kx x8 M else chk ((x6 + (4 : Int32)) + x8) (ln (rf a0 23)) (chk (((8 : Int32) * x7) + x8) (ln (rf a0 13)) (bnd (sI M (rf a0 13) (((8 : Int32) * x7) + x8).toNatClampNeg (M.1 (rf a0 23) ((x6 + (4 : Int32)) + x8).toNatClampNeg)) (fun M42 => bndV (x8 + (1 : Int32)) (fun v43 => kb (v43, M42))))))
set_option maxHeartbeats 4000000 in
set_option maxRecDepth 100000 in
theorem b_X5_takeRow_352_g {p : Program} {l : Launch} {e : Env} {s : State} {m : MethodId} {args : Array Value} {below : List Frame} {meth : Method} {c : Code} {D : va_G} {T : Nat → ClassId} {b : Nat} (hC : CX p s m args meth c cX5_takeRow 9 RX5 none D T) (a0 : Nat) (x1 : Int32) (x2 : Int32) (x4 : Int32) (x6 : Int32) (x7 : Int32) (x8 : Int32) (h0 : kd a0 = 5) (kx : Int32 → Me → Option (Unit × Me)) (hkx : ∀ (x8 : Int32) (M : Me), GN p l e (k2_rm 3 63) s m args below meth c D T b 9 eV 395 [(0, .ref (b + a0)), (1, .int x1), (2, .int x2), (4, .int x4), (6, .int x6), (7, .int x7)] [] M (kx x8 M)) (kb : Int32 × Me → Option (Unit × Me)) (hkb : ∀ z : Int32 × Me, GN p l e (k2_rm 3 63) s m args below meth c D T b 9 eV 352 [(0, .ref (b + a0)), (1, .int x1), (2, .int x2), (4, .int x4), (6, .int x6), (7, .int x7), (8, .int z.1)] [] z.2 (kb z)) (M : Me) : GN p l e (k2_rm 3 63) s m args below meth c D T b 9 eV 352 [(0, .ref (b + a0)), (1, .int x1), (2, .int x2), (4, .int x4), (6, .int x6), (7, .int x7), (8, .int x8)] [] M (g_X5_takeRow_352 kx kb a0 x1 x2 x4 x6 x7 x8 M) := by
  unfold g_X5_takeRow_352
  refine n_iload hC 6 rfl dX5_takeRow_352 ?_
  refine n_aload_n hC 0 rfl dX5_takeRow_354 ?_
  refine n_get hC clX5 h0 12 (.ref (b + (rf a0 12))) (by decide) rfl fl_X5_99 rfl dX5_takeRow_355 ?_
  refine n_iload hC 5 rfl dX5_takeRow_358 ?_
  refine n_iald hC (kf_X5_12 h0) dX5_takeRow_360 (fun g40 => ?_)
  refine n_icmp_ge hC 395 dX5_takeRow_361 (by decide) ?_ ?_
  · exact GN.sub [0, 1, 2, 3, 4, 5] rfl (hkx x8 M)
  refine n_aload_n hC 0 rfl dX5_takeRow_364 ?_
  refine n_get hC clX5 h0 13 (.ref (b + (rf a0 13))) (by decide) rfl fl_X5_102 rfl dX5_takeRow_365 ?_
  refine n_bipush hC (8 : Int32) (by decide) dX5_takeRow_368 ?_
  refine n_iload hC 5 rfl dX5_takeRow_370 ?_
  refine n_imul hC dX5_takeRow_372 ?_
  refine n_iload hC 6 rfl dX5_takeRow_373 ?_
  refine n_iadd hC dX5_takeRow_375 ?_
  refine n_aload_n hC 0 rfl dX5_takeRow_376 ?_
  refine n_get hC clX5 h0 23 (.ref (b + (rf a0 23))) (by decide) rfl fl_X5_128 rfl dX5_takeRow_377 ?_
  refine n_iload hC 4 rfl dX5_takeRow_380 ?_
  refine n_iconst hC (4 : Int32) (by decide) dX5_takeRow_382 ?_
  refine n_iadd hC dX5_takeRow_383 ?_
  refine n_iload hC 6 rfl dX5_takeRow_384 ?_
  refine n_iadd hC dX5_takeRow_386 ?_
  refine n_iald hC (kf_X5_23 h0) dX5_takeRow_387 (fun g41 => ?_)
  refine n_iast hC (kf_X5_13 h0) dX5_takeRow_388 (fun M42 => ?_)
  refine n_iincB hC (1 : Int32) (by decide) (fun v43 => [(8, .int v43), (0, .ref (b + a0)), (1, .int x1), (2, .int x2), (4, .int x4), (6, .int x6), (7, .int x7)]) 6 rfl (by decide) (fun _ => rfl) dX5_takeRow_389 (fun v43 => ?_)
  refine n_goto hC (tgt := 352) (by decide) dX5_takeRow_392 ?_
  exact GN.sub [1, 2, 3, 4, 5, 6, 0] rfl (hkb (v43, M42))
def l_X5_takeRow_352 (kx : Int32 → Me → Option (Unit × Me)) (a0 : Nat) (x1 : Int32) (x2 : Int32) (x4 : Int32) (x6 : Int32) (x7 : Int32) (x8 : Int32) (M : Me) : Option (Unit × Me) := lp (fun kb z => g_X5_takeRow_352 kx kb a0 x1 x2 x4 x6 x7 z.1 z.2) FU (x8, M)
set_option maxHeartbeats 4000000 in
set_option maxRecDepth 100000 in
theorem b_X5_takeRow_352 {p : Program} {l : Launch} {e : Env} {s : State} {m : MethodId} {args : Array Value} {below : List Frame} {meth : Method} {c : Code} {D : va_G} {T : Nat → ClassId} {b : Nat} (hC : CX p s m args meth c cX5_takeRow 9 RX5 none D T) (a0 : Nat) (x1 : Int32) (x2 : Int32) (x4 : Int32) (x6 : Int32) (x7 : Int32) (x8 : Int32) (h0 : kd a0 = 5) (kx : Int32 → Me → Option (Unit × Me)) (hkx : ∀ (x8 : Int32) (M : Me), GN p l e (k2_rm 3 63) s m args below meth c D T b 9 eV 395 [(0, .ref (b + a0)), (1, .int x1), (2, .int x2), (4, .int x4), (6, .int x6), (7, .int x7)] [] M (kx x8 M)) (M : Me) : GN p l e (k2_rm 3 63) s m args below meth c D T b 9 eV 352 [(0, .ref (b + a0)), (1, .int x1), (2, .int x2), (4, .int x4), (6, .int x6), (7, .int x7), (8, .int x8)] [] M (l_X5_takeRow_352 kx a0 x1 x2 x4 x6 x7 x8 M) := by
  exact n_loop (σ := Int32 × Me) (fun z => [(0, .ref (b + a0)), (1, .int x1), (2, .int x2), (4, .int x4), (6, .int x6), (7, .int x7), (8, .int z.1)]) (fun z => z.2) (fun kb hkb z => b_X5_takeRow_352_g hC a0 x1 x2 x4 x6 x7 z.1 h0 kx hkx kb hkb z.2) FU (x8, M)
def g_X5_takeRow_290 (kx : Int32 → Me → Option (Unit × Me)) (kb : Int32 × Me → Option (Unit × Me)) (a0 : Nat) (x1 : Int32) (x2 : Int32) (x4 : Int32) (x6 : Int32) (M : Me) : Option (Unit × Me) := if (((M.1 a0 34) + (M.1 a0 35)) + (M.1 a0 36)) ≤ x6 then kx x6 M else chk x1 (ln (rf a0 10)) (bndV (((3 : Int32) * x1) + (M.1 (rf a0 10) x1.toNatClampNeg)) (fun v33 => cal (f_X5_two M a0 x6) (fun r34 M35 => chk v33 (ln (rf a0 11)) (bnd (sI M35 (rf a0 11) v33.toNatClampNeg r34) (fun M36 => cal (f_X5_two M36 a0 (x6 + (2 : Int32))) (fun r37 M38 => chk v33 (ln (rf a0 12)) (bnd (sI M38 (rf a0 12) v33.toNatClampNeg r37) (fun M39 => l_X5_takeRow_352 (fun v44 M45 => chk x1 (ln (rf a0 10)) (chk x1 (ln (rf a0 10)) (bnd (sI M45 (rf a0 10) x1.toNatClampNeg ((M45.1 (rf a0 10) x1.toNatClampNeg) + (1 : Int32))) (fun M47 => chk v33 (ln (rf a0 12)) (bndV (x6 + ((4 : Int32) + (M47.1 (rf a0 12) v33.toNatClampNeg))) (fun v49 => kb (v49, M47))))))) a0 x1 x2 x4 x6 v33 (0 : Int32) M39))))))))
set_option maxHeartbeats 4000000 in
set_option maxRecDepth 100000 in
theorem b_X5_takeRow_290_g {p : Program} {l : Launch} {e : Env} {s : State} {m : MethodId} {args : Array Value} {below : List Frame} {meth : Method} {c : Code} {D : va_G} {T : Nat → ClassId} {b : Nat} (hC : CX p s m args meth c cX5_takeRow 9 RX5 none D T) (a0 : Nat) (x1 : Int32) (x2 : Int32) (x4 : Int32) (x6 : Int32) (h0 : kd a0 = 5) (kx : Int32 → Me → Option (Unit × Me)) (hkx : ∀ (x6 : Int32) (M : Me), GN p l e (k2_rm 3 63) s m args below meth c D T b 9 eV 422 [(0, .ref (b + a0)), (1, .int x1), (2, .int x2), (4, .int x4)] [] M (kx x6 M)) (kb : Int32 × Me → Option (Unit × Me)) (hkb : ∀ z : Int32 × Me, GN p l e (k2_rm 3 63) s m args below meth c D T b 9 eV 290 [(0, .ref (b + a0)), (1, .int x1), (2, .int x2), (4, .int x4), (6, .int z.1)] [] z.2 (kb z)) (M : Me) : GN p l e (k2_rm 3 63) s m args below meth c D T b 9 eV 290 [(0, .ref (b + a0)), (1, .int x1), (2, .int x2), (4, .int x4), (6, .int x6)] [] M (g_X5_takeRow_290 kx kb a0 x1 x2 x4 x6 M) := by
  unfold g_X5_takeRow_290
  refine n_iload hC 4 rfl dX5_takeRow_290 ?_
  refine n_aload_n hC 0 rfl dX5_takeRow_292 ?_
  refine n_get hC clX5 h0 34 (.int (M.1 a0 34)) (by decide) rfl fl_X5_226 rfl dX5_takeRow_293 ?_
  refine n_aload_n hC 0 rfl dX5_takeRow_296 ?_
  refine n_get hC clX5 h0 35 (.int (M.1 a0 35)) (by decide) rfl fl_X5_229 rfl dX5_takeRow_297 ?_
  refine n_iadd hC dX5_takeRow_300 ?_
  refine n_aload_n hC 0 rfl dX5_takeRow_301 ?_
  refine n_get hC clX5 h0 36 (.int (M.1 a0 36)) (by decide) rfl fl_X5_232 rfl dX5_takeRow_302 ?_
  refine n_iadd hC dX5_takeRow_305 ?_
  refine n_icmp_ge hC 422 dX5_takeRow_306 (by decide) ?_ ?_
  · exact GN.sub [0, 1, 2, 3] rfl (hkx x6 M)
  refine n_iconst hC (3 : Int32) (by decide) dX5_takeRow_309 ?_
  refine n_iload_n hC 1 rfl dX5_takeRow_310 ?_
  refine n_imul hC dX5_takeRow_311 ?_
  refine n_aload_n hC 0 rfl dX5_takeRow_312 ?_
  refine n_get hC clX5 h0 10 (.ref (b + (rf a0 10))) (by decide) rfl fl_X5_36 rfl dX5_takeRow_313 ?_
  refine n_iload_n hC 1 rfl dX5_takeRow_316 ?_
  refine n_iald hC (kf_X5_10 h0) dX5_takeRow_317 (fun g32 => ?_)
  refine n_iadd hC dX5_takeRow_318 ?_
  refine n_istB hC (fun v33 => [(7, .int v33), (0, .ref (b + a0)), (1, .int x1), (2, .int x2), (4, .int x4), (6, .int x6)]) (by decide) (fun _ => rfl) dX5_takeRow_319 (fun v33 => ?_)
  refine n_aload_n hC 1 rfl dX5_takeRow_321 ?_
  refine n_get hC clX5 h0 11 (.ref (b + (rf a0 11))) (by decide) rfl fl_X5_96 rfl dX5_takeRow_322 ?_
  refine n_iload hC 0 rfl dX5_takeRow_325 ?_
  refine n_aload_n hC 1 rfl dX5_takeRow_327 ?_
  refine n_iload hC 5 rfl dX5_takeRow_328 ?_
  refine n_callVi (As := [.int x6]) (rest := [.int v33, .ref (b + (rf a0 11))]) h0 rfl (by decide) hC (c_X5_two l M a0 x6 h0) my_X5_two ml_X5_193 rfl rfl rfl (Nat.le_of_ble_eq_true rfl) ⟨by decide, by decide⟩ dX5_takeRow_330 (fun r34 M35 => ?_)
  refine n_iast hC (kf_X5_11 h0) dX5_takeRow_333 (fun M36 => ?_)
  refine n_aload_n hC 1 rfl dX5_takeRow_334 ?_
  refine n_get hC clX5 h0 12 (.ref (b + (rf a0 12))) (by decide) rfl fl_X5_99 rfl dX5_takeRow_335 ?_
  refine n_iload hC 0 rfl dX5_takeRow_338 ?_
  refine n_aload_n hC 1 rfl dX5_takeRow_340 ?_
  refine n_iload hC 5 rfl dX5_takeRow_341 ?_
  refine n_iconst hC (2 : Int32) (by decide) dX5_takeRow_343 ?_
  refine n_iadd hC dX5_takeRow_344 ?_
  refine n_callVi (As := [.int (x6 + (2 : Int32))]) (rest := [.int v33, .ref (b + (rf a0 12))]) h0 rfl (by decide) hC (c_X5_two l M36 a0 (x6 + (2 : Int32)) h0) my_X5_two ml_X5_193 rfl rfl rfl (Nat.le_of_ble_eq_true rfl) ⟨by decide, by decide⟩ dX5_takeRow_345 (fun r37 M38 => ?_)
  refine n_iast hC (kf_X5_12 h0) dX5_takeRow_348 (fun M39 => ?_)
  refine n_iconst hC (0 : Int32) (by decide) dX5_takeRow_349 ?_
  refine n_istore hC [(8, .int (0 : Int32)), (7, .int v33), (0, .ref (b + a0)), (1, .int x1), (2, .int x2), (4, .int x4), (6, .int x6)] (by decide) rfl dX5_takeRow_350 ?_
  refine GN.sub [2, 3, 4, 5, 6, 1, 0] rfl (b_X5_takeRow_352 hC a0 x1 x2 x4 x6 v33 (0 : Int32) h0 _ (fun v44 M45 => ?_) M39)
  refine n_aload_n hC 0 rfl dX5_takeRow_395 ?_
  refine n_get hC clX5 h0 10 (.ref (b + (rf a0 10))) (by decide) rfl fl_X5_36 rfl dX5_takeRow_396 ?_
  refine n_iload_n hC 1 rfl dX5_takeRow_399 ?_
  refine n_dup2 hC rfl rfl dX5_takeRow_400 ?_
  refine n_iald hC (kf_X5_10 h0) dX5_takeRow_401 (fun g46 => ?_)
  refine n_iconst hC (1 : Int32) (by decide) dX5_takeRow_402 ?_
  refine n_iadd hC dX5_takeRow_403 ?_
  refine n_iast hC (kf_X5_10 h0) dX5_takeRow_404 (fun M47 => ?_)
  refine n_iload hC 4 rfl dX5_takeRow_405 ?_
  refine n_iconst hC (4 : Int32) (by decide) dX5_takeRow_407 ?_
  refine n_aload_n hC 0 rfl dX5_takeRow_408 ?_
  refine n_get hC clX5 h0 12 (.ref (b + (rf a0 12))) (by decide) rfl fl_X5_99 rfl dX5_takeRow_409 ?_
  refine n_iload hC 5 rfl dX5_takeRow_412 ?_
  refine n_iald hC (kf_X5_12 h0) dX5_takeRow_414 (fun g48 => ?_)
  refine n_iadd hC dX5_takeRow_415 ?_
  refine n_iadd hC dX5_takeRow_416 ?_
  refine n_istB hC (fun v49 => [(6, .int v49), (0, .ref (b + a0)), (1, .int x1), (2, .int x2), (4, .int x4), (7, .int v33)]) (by decide) (fun _ => rfl) dX5_takeRow_417 (fun v49 => ?_)
  refine n_goto hC (tgt := 290) (by decide) dX5_takeRow_419 ?_
  exact GN.sub [1, 2, 3, 4, 0] rfl (hkb (v49, M47))
def l_X5_takeRow_290 (kx : Int32 → Me → Option (Unit × Me)) (a0 : Nat) (x1 : Int32) (x2 : Int32) (x4 : Int32) (x6 : Int32) (M : Me) : Option (Unit × Me) := lp (fun kb z => g_X5_takeRow_290 kx kb a0 x1 x2 x4 z.1 z.2) FU (x6, M)
set_option maxHeartbeats 4000000 in
set_option maxRecDepth 100000 in
theorem b_X5_takeRow_290 {p : Program} {l : Launch} {e : Env} {s : State} {m : MethodId} {args : Array Value} {below : List Frame} {meth : Method} {c : Code} {D : va_G} {T : Nat → ClassId} {b : Nat} (hC : CX p s m args meth c cX5_takeRow 9 RX5 none D T) (a0 : Nat) (x1 : Int32) (x2 : Int32) (x4 : Int32) (x6 : Int32) (h0 : kd a0 = 5) (kx : Int32 → Me → Option (Unit × Me)) (hkx : ∀ (x6 : Int32) (M : Me), GN p l e (k2_rm 3 63) s m args below meth c D T b 9 eV 422 [(0, .ref (b + a0)), (1, .int x1), (2, .int x2), (4, .int x4)] [] M (kx x6 M)) (M : Me) : GN p l e (k2_rm 3 63) s m args below meth c D T b 9 eV 290 [(0, .ref (b + a0)), (1, .int x1), (2, .int x2), (4, .int x4), (6, .int x6)] [] M (l_X5_takeRow_290 kx a0 x1 x2 x4 x6 M) := by
  exact n_loop (σ := Int32 × Me) (fun z => [(0, .ref (b + a0)), (1, .int x1), (2, .int x2), (4, .int x4), (6, .int z.1)]) (fun z => z.2) (fun kb hkb z => b_X5_takeRow_290_g hC a0 x1 x2 x4 z.1 h0 kx hkx kb hkb z.2) FU (x6, M)
def g_X5_takeRow_459 (kx : Int32 → Me → Option (Unit × Me)) (kb : Int32 × Me → Option (Unit × Me)) (a0 : Nat) (x1 : Int32) (x2 : Int32) (x7 : Int32) (M : Me) : Option (Unit × Me) := chk x1 (ln (rf a0 15)) (if (M.1 (rf a0 15) x1.toNatClampNeg) ≤ x7 then kx x7 M else chk x1 (ln (rf a0 20)) (chk (((((M.1 (rf a0 20) x1.toNatClampNeg) + (30 : Int32)) + (M.1 a0 35)) + (M.1 a0 36)) + x7) (ln (rf a0 23)) (chk (((40 : Int32) * x1) + x7) (ln (rf a0 16)) (bnd (sI M (rf a0 16) (((40 : Int32) * x1) + x7).toNatClampNeg (M.1 (rf a0 23) (((((M.1 (rf a0 20) x1.toNatClampNeg) + (30 : Int32)) + (M.1 a0 35)) + (M.1 a0 36)) + x7).toNatClampNeg)) (fun M58 => bndV (x7 + (1 : Int32)) (fun v59 => kb (v59, M58)))))))
set_option maxHeartbeats 4000000 in
set_option maxRecDepth 100000 in
theorem b_X5_takeRow_459_g {p : Program} {l : Launch} {e : Env} {s : State} {m : MethodId} {args : Array Value} {below : List Frame} {meth : Method} {c : Code} {D : va_G} {T : Nat → ClassId} {b : Nat} (hC : CX p s m args meth c cX5_takeRow 9 RX5 none D T) (a0 : Nat) (x1 : Int32) (x2 : Int32) (x7 : Int32) (h0 : kd a0 = 5) (kx : Int32 → Me → Option (Unit × Me)) (hkx : ∀ (x7 : Int32) (M : Me), GN p l e (k2_rm 3 63) s m args below meth c D T b 9 eV 515 [(0, .ref (b + a0)), (1, .int x1), (2, .int x2)] [] M (kx x7 M)) (kb : Int32 × Me → Option (Unit × Me)) (hkb : ∀ z : Int32 × Me, GN p l e (k2_rm 3 63) s m args below meth c D T b 9 eV 459 [(0, .ref (b + a0)), (1, .int x1), (2, .int x2), (7, .int z.1)] [] z.2 (kb z)) (M : Me) : GN p l e (k2_rm 3 63) s m args below meth c D T b 9 eV 459 [(0, .ref (b + a0)), (1, .int x1), (2, .int x2), (7, .int x7)] [] M (g_X5_takeRow_459 kx kb a0 x1 x2 x7 M) := by
  unfold g_X5_takeRow_459
  refine n_iload hC 3 rfl dX5_takeRow_459 ?_
  refine n_aload_n hC 0 rfl dX5_takeRow_461 ?_
  refine n_get hC clX5 h0 15 (.ref (b + (rf a0 15))) (by decide) rfl fl_X5_43 rfl dX5_takeRow_462 ?_
  refine n_iload_n hC 1 rfl dX5_takeRow_465 ?_
  refine n_iald hC (kf_X5_15 h0) dX5_takeRow_466 (fun g55 => ?_)
  refine n_icmp_ge hC 515 dX5_takeRow_467 (by decide) ?_ ?_
  · exact GN.sub [0, 1, 2] rfl (hkx x7 M)
  refine n_aload_n hC 0 rfl dX5_takeRow_470 ?_
  refine n_get hC clX5 h0 16 (.ref (b + (rf a0 16))) (by decide) rfl fl_X5_89 rfl dX5_takeRow_471 ?_
  refine n_bipush hC (40 : Int32) (by decide) dX5_takeRow_474 ?_
  refine n_iload_n hC 1 rfl dX5_takeRow_476 ?_
  refine n_imul hC dX5_takeRow_477 ?_
  refine n_iload hC 3 rfl dX5_takeRow_478 ?_
  refine n_iadd hC dX5_takeRow_480 ?_
  refine n_aload_n hC 0 rfl dX5_takeRow_481 ?_
  refine n_get hC clX5 h0 23 (.ref (b + (rf a0 23))) (by decide) rfl fl_X5_128 rfl dX5_takeRow_482 ?_
  refine n_aload_n hC 0 rfl dX5_takeRow_485 ?_
  refine n_get hC clX5 h0 20 (.ref (b + (rf a0 20))) (by decide) rfl fl_X5_55 rfl dX5_takeRow_486 ?_
  refine n_iload_n hC 1 rfl dX5_takeRow_489 ?_
  refine n_iald hC (kf_X5_20 h0) dX5_takeRow_490 (fun g56 => ?_)
  refine n_bipush hC (30 : Int32) (by decide) dX5_takeRow_491 ?_
  refine n_iadd hC dX5_takeRow_493 ?_
  refine n_aload_n hC 0 rfl dX5_takeRow_494 ?_
  refine n_get hC clX5 h0 35 (.int (M.1 a0 35)) (by decide) rfl fl_X5_229 rfl dX5_takeRow_495 ?_
  refine n_iadd hC dX5_takeRow_498 ?_
  refine n_aload_n hC 0 rfl dX5_takeRow_499 ?_
  refine n_get hC clX5 h0 36 (.int (M.1 a0 36)) (by decide) rfl fl_X5_232 rfl dX5_takeRow_500 ?_
  refine n_iadd hC dX5_takeRow_503 ?_
  refine n_iload hC 3 rfl dX5_takeRow_504 ?_
  refine n_iadd hC dX5_takeRow_506 ?_
  refine n_iald hC (kf_X5_23 h0) dX5_takeRow_507 (fun g57 => ?_)
  refine n_iast hC (kf_X5_16 h0) dX5_takeRow_508 (fun M58 => ?_)
  refine n_iincB hC (1 : Int32) (by decide) (fun v59 => [(7, .int v59), (0, .ref (b + a0)), (1, .int x1), (2, .int x2)]) 3 rfl (by decide) (fun _ => rfl) dX5_takeRow_509 (fun v59 => ?_)
  refine n_goto hC (tgt := 459) (by decide) dX5_takeRow_512 ?_
  exact GN.sub [1, 2, 3, 0] rfl (hkb (v59, M58))
def l_X5_takeRow_459 (kx : Int32 → Me → Option (Unit × Me)) (a0 : Nat) (x1 : Int32) (x2 : Int32) (x7 : Int32) (M : Me) : Option (Unit × Me) := lp (fun kb z => g_X5_takeRow_459 kx kb a0 x1 x2 z.1 z.2) FU (x7, M)
set_option maxHeartbeats 4000000 in
set_option maxRecDepth 100000 in
theorem b_X5_takeRow_459 {p : Program} {l : Launch} {e : Env} {s : State} {m : MethodId} {args : Array Value} {below : List Frame} {meth : Method} {c : Code} {D : va_G} {T : Nat → ClassId} {b : Nat} (hC : CX p s m args meth c cX5_takeRow 9 RX5 none D T) (a0 : Nat) (x1 : Int32) (x2 : Int32) (x7 : Int32) (h0 : kd a0 = 5) (kx : Int32 → Me → Option (Unit × Me)) (hkx : ∀ (x7 : Int32) (M : Me), GN p l e (k2_rm 3 63) s m args below meth c D T b 9 eV 515 [(0, .ref (b + a0)), (1, .int x1), (2, .int x2)] [] M (kx x7 M)) (M : Me) : GN p l e (k2_rm 3 63) s m args below meth c D T b 9 eV 459 [(0, .ref (b + a0)), (1, .int x1), (2, .int x2), (7, .int x7)] [] M (l_X5_takeRow_459 kx a0 x1 x2 x7 M) := by
  exact n_loop (σ := Int32 × Me) (fun z => [(0, .ref (b + a0)), (1, .int x1), (2, .int x2), (7, .int z.1)]) (fun z => z.2) (fun kb hkb z => b_X5_takeRow_459_g hC a0 x1 x2 z.1 h0 kx hkx kb hkb z.2) FU (x7, M)
def j_X5_takeRow_144 (a0 : Nat) (x1 : Int32) (x2 : Int32) (x3 : Int32) (x4 : Int32) (s0 : Int32) (s1 : Int32) (s2 : Nat) (M : Me) : Option (Unit × Me) := chk s1 (ln s2) (bnd (sI M s2 s1.toNatClampNeg s0) (fun M15 => cal (f_X5_two M15 a0 (x2 + (12 : Int32))) (fun r16 M17 => chk x1 (ln (rf a0 7)) (bnd (sI M17 (rf a0 7) x1.toNatClampNeg r16) (fun M18 => cal (f_X5_two M18 a0 (x2 + (14 : Int32))) (fun r19 M20 => chk x1 (ln (rf a0 8)) (bnd (sI M20 (rf a0 8) x1.toNatClampNeg r19) (fun M21 => cal (f_X5_four M21 a0 (x2 + (38 : Int32))) (fun r22 M23 => chk x1 (ln (rf a0 9)) (bnd (sI M23 (rf a0 9) x1.toNatClampNeg r22.toInt32) (fun M24 => chk x1 (ln (rf a0 6)) (bnd (sI M24 (rf a0 6) x1.toNatClampNeg (M24.1 a0 35)) (fun M25 => l_X5_takeRow_201 (fun v29 M30 => bndV ((M30.1 a0 34) + (M30.1 a0 35)) (fun v31 => if (M30.1 a0 37) = (0 : Int32) then l_X5_takeRow_290 (fun v50 M51 => chk x1 (ln (rf a0 20)) (bnd (sI M51 (rf a0 20) x1.toNatClampNeg ((M51.2 a0 41).toInt32)) (fun M52 => if x4 = (0 : Int32) then chk x1 (ln (rf a0 14)) (bnd (sI M52 (rf a0 14) x1.toNatClampNeg (vp_nar .boolean (1 : Int32))) (fun M53 => chk x1 (ln (rf a0 15)) (bnd (sI M53 (rf a0 15) x1.toNatClampNeg ((M53.2 a0 39).toInt32)) (fun M54 => l_X5_takeRow_459 (fun v60 M61 => chk x1 (ln (rf a0 17)) (bnd (sI M61 (rf a0 17) x1.toNatClampNeg ((M61.2 a0 40).toInt32)) (fun M62 => cal (f_X5_four M62 a0 (x2 + (16 : Int32))) (fun r63 M64 => chk x1 (ln (rf a0 18)) (bnd (sI M64 (rf a0 18) x1.toNatClampNeg r63.toInt32) (fun M65 => chk x1 (ln (rf a0 19)) (bnd (sI M65 (rf a0 19) x1.toNatClampNeg (vp_nar .boolean (1 : Int32))) (fun M66 => some ((), M66))))))))) a0 x1 x2 (0 : Int32) M54)))) else some ((), M52)))) a0 x1 x2 x4 v31 M30 else if x3 = (0 : Int32) then l_X5_takeRow_290 (fun v67 M68 => chk x1 (ln (rf a0 20)) (bnd (sI M68 (rf a0 20) x1.toNatClampNeg ((M68.2 a0 41).toInt32)) (fun M69 => if x4 = (0 : Int32) then chk x1 (ln (rf a0 14)) (bnd (sI M69 (rf a0 14) x1.toNatClampNeg (vp_nar .boolean (1 : Int32))) (fun M70 => chk x1 (ln (rf a0 15)) (bnd (sI M70 (rf a0 15) x1.toNatClampNeg ((M70.2 a0 39).toInt32)) (fun M71 => l_X5_takeRow_459 (fun v72 M73 => chk x1 (ln (rf a0 17)) (bnd (sI M73 (rf a0 17) x1.toNatClampNeg ((M73.2 a0 40).toInt32)) (fun M74 => cal (f_X5_four M74 a0 (x2 + (16 : Int32))) (fun r75 M76 => chk x1 (ln (rf a0 18)) (bnd (sI M76 (rf a0 18) x1.toNatClampNeg r75.toInt32) (fun M77 => chk x1 (ln (rf a0 19)) (bnd (sI M77 (rf a0 19) x1.toNatClampNeg (vp_nar .boolean (1 : Int32))) (fun M78 => some ((), M78))))))))) a0 x1 x2 (0 : Int32) M71)))) else some ((), M69)))) a0 x1 x2 x4 v31 M30 else cal (f_X5_eight M30 a0 (v31 + (4 : Int32))) (fun r79 M80 => bnd (sL M80 a0 40 r79) (fun M81 => cal (f_X5_eight M81 a0 (v31 + (12 : Int32))) (fun r82 M83 => bnd (sL M83 a0 39 r82) (fun M84 => bndV (v31 + (20 : Int32)) (fun v85 => l_X5_takeRow_290 (fun v86 M87 => chk x1 (ln (rf a0 20)) (bnd (sI M87 (rf a0 20) x1.toNatClampNeg ((M87.2 a0 41).toInt32)) (fun M88 => if x4 = (0 : Int32) then chk x1 (ln (rf a0 14)) (bnd (sI M88 (rf a0 14) x1.toNatClampNeg (vp_nar .boolean (1 : Int32))) (fun M89 => chk x1 (ln (rf a0 15)) (bnd (sI M89 (rf a0 15) x1.toNatClampNeg ((M89.2 a0 39).toInt32)) (fun M90 => l_X5_takeRow_459 (fun v91 M92 => chk x1 (ln (rf a0 17)) (bnd (sI M92 (rf a0 17) x1.toNatClampNeg ((M92.2 a0 40).toInt32)) (fun M93 => cal (f_X5_four M93 a0 (x2 + (16 : Int32))) (fun r94 M95 => chk x1 (ln (rf a0 18)) (bnd (sI M95 (rf a0 18) x1.toNatClampNeg r94.toInt32) (fun M96 => chk x1 (ln (rf a0 19)) (bnd (sI M96 (rf a0 19) x1.toNatClampNeg (vp_nar .boolean (1 : Int32))) (fun M97 => some ((), M97))))))))) a0 x1 x2 (0 : Int32) M90)))) else some ((), M88)))) a0 x1 x2 x4 v85 M84))))))) a0 x1 x2 x3 x4 (0 : Int32) M25)))))))))))))
set_option maxHeartbeats 4000000 in
set_option maxRecDepth 100000 in
theorem b_X5_takeRow_144 {p : Program} {l : Launch} {e : Env} {s : State} {m : MethodId} {args : Array Value} {below : List Frame} {meth : Method} {c : Code} {D : va_G} {T : Nat → ClassId} {b : Nat} (hC : CX p s m args meth c cX5_takeRow 9 RX5 none D T) (a0 : Nat) (x1 : Int32) (x2 : Int32) (x3 : Int32) (x4 : Int32) (s0 : Int32) (s1 : Int32) (s2 : Nat) (h0 : kd a0 = 5) (hs2 : kd s2 = 7) (M : Me) : GN p l e (k2_rm 3 63) s m args below meth c D T b 9 eV 144 [(0, .ref (b + a0)), (1, .int x1), (2, .int x2), (3, .int x3), (4, .int x4)] [.int s0, .int s1, .ref (b + s2)] M (j_X5_takeRow_144 a0 x1 x2 x3 x4 s0 s1 s2 M) := by
  unfold j_X5_takeRow_144
  refine n_iast hC hs2 dX5_takeRow_144 (fun M15 => ?_)
  refine n_aload_n hC 0 rfl dX5_takeRow_145 ?_
  refine n_get hC clX5 h0 7 (.ref (b + (rf a0 7))) (by decide) rfl fl_X5_27 rfl dX5_takeRow_146 ?_
  refine n_iload_n hC 1 rfl dX5_takeRow_149 ?_
  refine n_aload_n hC 0 rfl dX5_takeRow_150 ?_
  refine n_iload_n hC 2 rfl dX5_takeRow_151 ?_
  refine n_bipush hC (12 : Int32) (by decide) dX5_takeRow_152 ?_
  refine n_iadd hC dX5_takeRow_154 ?_
  refine n_callVi (As := [.int (x2 + (12 : Int32))]) (rest := [.int x1, .ref (b + (rf a0 7))]) h0 rfl (by decide) hC (c_X5_two l M15 a0 (x2 + (12 : Int32)) h0) my_X5_two ml_X5_193 rfl rfl rfl (Nat.le_of_ble_eq_true rfl) ⟨by decide, by decide⟩ dX5_takeRow_155 (fun r16 M17 => ?_)
  refine n_iast hC (kf_X5_7 h0) dX5_takeRow_158 (fun M18 => ?_)
  refine n_aload_n hC 0 rfl dX5_takeRow_159 ?_
  refine n_get hC clX5 h0 8 (.ref (b + (rf a0 8))) (by decide) rfl fl_X5_30 rfl dX5_takeRow_160 ?_
  refine n_iload_n hC 1 rfl dX5_takeRow_163 ?_
  refine n_aload_n hC 0 rfl dX5_takeRow_164 ?_
  refine n_iload_n hC 2 rfl dX5_takeRow_165 ?_
  refine n_bipush hC (14 : Int32) (by decide) dX5_takeRow_166 ?_
  refine n_iadd hC dX5_takeRow_168 ?_
  refine n_callVi (As := [.int (x2 + (14 : Int32))]) (rest := [.int x1, .ref (b + (rf a0 8))]) h0 rfl (by decide) hC (c_X5_two l M18 a0 (x2 + (14 : Int32)) h0) my_X5_two ml_X5_193 rfl rfl rfl (Nat.le_of_ble_eq_true rfl) ⟨by decide, by decide⟩ dX5_takeRow_169 (fun r19 M20 => ?_)
  refine n_iast hC (kf_X5_8 h0) dX5_takeRow_172 (fun M21 => ?_)
  refine n_aload_n hC 0 rfl dX5_takeRow_173 ?_
  refine n_get hC clX5 h0 9 (.ref (b + (rf a0 9))) (by decide) rfl fl_X5_33 rfl dX5_takeRow_174 ?_
  refine n_iload_n hC 1 rfl dX5_takeRow_177 ?_
  refine n_aload_n hC 0 rfl dX5_takeRow_178 ?_
  refine n_iload_n hC 2 rfl dX5_takeRow_179 ?_
  refine n_bipush hC (38 : Int32) (by decide) dX5_takeRow_180 ?_
  refine n_iadd hC dX5_takeRow_182 ?_
  refine n_callVl (As := [.int (x2 + (38 : Int32))]) (rest := [.int x1, .ref (b + (rf a0 9))]) h0 rfl (by decide) hC (c_X5_four l M21 a0 (x2 + (38 : Int32)) h0) my_X5_four ml_X5_196 rfl rfl rfl (Nat.le_of_ble_eq_true rfl) ⟨by decide, by decide⟩ dX5_takeRow_183 (fun r22 M23 => ?_)
  refine n_l2i hC dX5_takeRow_186 ?_
  refine n_iast hC (kf_X5_9 h0) dX5_takeRow_187 (fun M24 => ?_)
  refine n_aload_n hC 0 rfl dX5_takeRow_188 ?_
  refine n_get hC clX5 h0 6 (.ref (b + (rf a0 6))) (by decide) rfl fl_X5_23 rfl dX5_takeRow_189 ?_
  refine n_iload_n hC 1 rfl dX5_takeRow_192 ?_
  refine n_aload_n hC 0 rfl dX5_takeRow_193 ?_
  refine n_get hC clX5 h0 35 (.int (M24.1 a0 35)) (by decide) rfl fl_X5_229 rfl dX5_takeRow_194 ?_
  refine n_iast hC (kf_X5_6 h0) dX5_takeRow_197 (fun M25 => ?_)
  refine n_iconst hC (0 : Int32) (by decide) dX5_takeRow_198 ?_
  refine n_istore hC [(6, .int (0 : Int32)), (0, .ref (b + a0)), (1, .int x1), (2, .int x2), (3, .int x3), (4, .int x4)] (by decide) rfl dX5_takeRow_199 ?_
  refine GN.sub [1, 2, 3, 4, 5, 0] rfl (b_X5_takeRow_201 hC a0 x1 x2 x3 x4 (0 : Int32) h0 _ (fun v29 M30 => ?_) M25)
  refine n_aload_n hC 0 rfl dX5_takeRow_240 ?_
  refine n_get hC clX5 h0 34 (.int (M30.1 a0 34)) (by decide) rfl fl_X5_226 rfl dX5_takeRow_241 ?_
  refine n_aload_n hC 0 rfl dX5_takeRow_244 ?_
  refine n_get hC clX5 h0 35 (.int (M30.1 a0 35)) (by decide) rfl fl_X5_229 rfl dX5_takeRow_245 ?_
  refine n_iadd hC dX5_takeRow_248 ?_
  refine n_istB hC (fun v31 => [(6, .int v31), (0, .ref (b + a0)), (1, .int x1), (2, .int x2), (3, .int x3), (4, .int x4)]) (by decide) (fun _ => rfl) dX5_takeRow_249 (fun v31 => ?_)
  refine n_aload_n hC 1 rfl dX5_takeRow_251 ?_
  refine n_get hC clX5 h0 37 (.int (M30.1 a0 37)) (by decide) rfl fl_X5_222 rfl dX5_takeRow_252 ?_
  refine n_if_eq hC 290 dX5_takeRow_255 (by decide) ?_ ?_
  · refine GN.sub [1, 2, 3, 5, 0] rfl (b_X5_takeRow_290 hC a0 x1 x2 x4 v31 h0 _ (fun v50 M51 => ?_) M30)
    refine n_aload_n hC 0 rfl dX5_takeRow_422 ?_
    refine n_get hC clX5 h0 20 (.ref (b + (rf a0 20))) (by decide) rfl fl_X5_55 rfl dX5_takeRow_423 ?_
    refine n_iload_n hC 1 rfl dX5_takeRow_426 ?_
    refine n_aload_n hC 0 rfl dX5_takeRow_427 ?_
    refine n_get hC clX5 h0 41 (.long (M51.2 a0 41)) (by decide) rfl fl_X5_242 rfl dX5_takeRow_428 ?_
    refine n_l2i hC dX5_takeRow_431 ?_
    refine n_iast hC (kf_X5_20 h0) dX5_takeRow_432 (fun M52 => ?_)
    refine n_iload hC 3 rfl dX5_takeRow_433 ?_
    refine n_if_ne hC 548 dX5_takeRow_435 (by decide) ?_ ?_
    · exact n_vret hC dX5_takeRow_548
    refine n_aload_n hC 0 rfl dX5_takeRow_438 ?_
    refine n_get hC clX5 h0 14 (.ref (b + (rf a0 14))) (by decide) rfl fl_X5_39 rfl dX5_takeRow_439 ?_
    refine n_iload_n hC 1 rfl dX5_takeRow_442 ?_
    refine n_iconst hC (1 : Int32) (by decide) dX5_takeRow_443 ?_
    refine n_zast hC (kf_X5_14 h0) dX5_takeRow_444 (fun M53 => ?_)
    refine n_aload_n hC 0 rfl dX5_takeRow_445 ?_
    refine n_get hC clX5 h0 15 (.ref (b + (rf a0 15))) (by decide) rfl fl_X5_43 rfl dX5_takeRow_446 ?_
    refine n_iload_n hC 1 rfl dX5_takeRow_449 ?_
    refine n_aload_n hC 0 rfl dX5_takeRow_450 ?_
    refine n_get hC clX5 h0 39 (.long (M53.2 a0 39)) (by decide) rfl fl_X5_235 rfl dX5_takeRow_451 ?_
    refine n_l2i hC dX5_takeRow_454 ?_
    refine n_iast hC (kf_X5_15 h0) dX5_takeRow_455 (fun M54 => ?_)
    refine n_iconst hC (0 : Int32) (by decide) dX5_takeRow_456 ?_
    refine n_istore hC [(7, .int (0 : Int32)), (0, .ref (b + a0)), (1, .int x1), (2, .int x2), (4, .int x4)] (by decide) rfl dX5_takeRow_457 ?_
    refine GN.sub [1, 2, 3, 0] rfl (b_X5_takeRow_459 hC a0 x1 x2 (0 : Int32) h0 _ (fun v60 M61 => ?_) M54)
    refine n_aload_n hC 0 rfl dX5_takeRow_515 ?_
    refine n_get hC clX5 h0 17 (.ref (b + (rf a0 17))) (by decide) rfl fl_X5_46 rfl dX5_takeRow_516 ?_
    refine n_iload_n hC 1 rfl dX5_takeRow_519 ?_
    refine n_aload_n hC 0 rfl dX5_takeRow_520 ?_
    refine n_get hC clX5 h0 40 (.long (M61.2 a0 40)) (by decide) rfl fl_X5_239 rfl dX5_takeRow_521 ?_
    refine n_l2i hC dX5_takeRow_524 ?_
    refine n_iast hC (kf_X5_17 h0) dX5_takeRow_525 (fun M62 => ?_)
    refine n_aload_n hC 0 rfl dX5_takeRow_526 ?_
    refine n_get hC clX5 h0 18 (.ref (b + (rf a0 18))) (by decide) rfl fl_X5_49 rfl dX5_takeRow_527 ?_
    refine n_iload_n hC 1 rfl dX5_takeRow_530 ?_
    refine n_aload_n hC 0 rfl dX5_takeRow_531 ?_
    refine n_iload_n hC 2 rfl dX5_takeRow_532 ?_
    refine n_bipush hC (16 : Int32) (by decide) dX5_takeRow_533 ?_
    refine n_iadd hC dX5_takeRow_535 ?_
    refine n_callVl (As := [.int (x2 + (16 : Int32))]) (rest := [.int x1, .ref (b + (rf a0 18))]) h0 rfl (by decide) hC (c_X5_four l M62 a0 (x2 + (16 : Int32)) h0) my_X5_four ml_X5_196 rfl rfl rfl (Nat.le_of_ble_eq_true rfl) ⟨by decide, by decide⟩ dX5_takeRow_536 (fun r63 M64 => ?_)
    refine n_l2i hC dX5_takeRow_539 ?_
    refine n_iast hC (kf_X5_18 h0) dX5_takeRow_540 (fun M65 => ?_)
    refine n_aload_n hC 0 rfl dX5_takeRow_541 ?_
    refine n_get hC clX5 h0 19 (.ref (b + (rf a0 19))) (by decide) rfl fl_X5_52 rfl dX5_takeRow_542 ?_
    refine n_iload_n hC 1 rfl dX5_takeRow_545 ?_
    refine n_iconst hC (1 : Int32) (by decide) dX5_takeRow_546 ?_
    refine n_zast hC (kf_X5_19 h0) dX5_takeRow_547 (fun M66 => ?_)
    exact n_vret hC dX5_takeRow_548
  refine n_iload_n hC 4 rfl dX5_takeRow_258 ?_
  refine n_if_eq hC 290 dX5_takeRow_259 (by decide) ?_ ?_
  · refine GN.sub [1, 2, 3, 5, 0] rfl (b_X5_takeRow_290 hC a0 x1 x2 x4 v31 h0 _ (fun v67 M68 => ?_) M30)
    refine n_aload_n hC 0 rfl dX5_takeRow_422 ?_
    refine n_get hC clX5 h0 20 (.ref (b + (rf a0 20))) (by decide) rfl fl_X5_55 rfl dX5_takeRow_423 ?_
    refine n_iload_n hC 1 rfl dX5_takeRow_426 ?_
    refine n_aload_n hC 0 rfl dX5_takeRow_427 ?_
    refine n_get hC clX5 h0 41 (.long (M68.2 a0 41)) (by decide) rfl fl_X5_242 rfl dX5_takeRow_428 ?_
    refine n_l2i hC dX5_takeRow_431 ?_
    refine n_iast hC (kf_X5_20 h0) dX5_takeRow_432 (fun M69 => ?_)
    refine n_iload hC 3 rfl dX5_takeRow_433 ?_
    refine n_if_ne hC 548 dX5_takeRow_435 (by decide) ?_ ?_
    · exact n_vret hC dX5_takeRow_548
    refine n_aload_n hC 0 rfl dX5_takeRow_438 ?_
    refine n_get hC clX5 h0 14 (.ref (b + (rf a0 14))) (by decide) rfl fl_X5_39 rfl dX5_takeRow_439 ?_
    refine n_iload_n hC 1 rfl dX5_takeRow_442 ?_
    refine n_iconst hC (1 : Int32) (by decide) dX5_takeRow_443 ?_
    refine n_zast hC (kf_X5_14 h0) dX5_takeRow_444 (fun M70 => ?_)
    refine n_aload_n hC 0 rfl dX5_takeRow_445 ?_
    refine n_get hC clX5 h0 15 (.ref (b + (rf a0 15))) (by decide) rfl fl_X5_43 rfl dX5_takeRow_446 ?_
    refine n_iload_n hC 1 rfl dX5_takeRow_449 ?_
    refine n_aload_n hC 0 rfl dX5_takeRow_450 ?_
    refine n_get hC clX5 h0 39 (.long (M70.2 a0 39)) (by decide) rfl fl_X5_235 rfl dX5_takeRow_451 ?_
    refine n_l2i hC dX5_takeRow_454 ?_
    refine n_iast hC (kf_X5_15 h0) dX5_takeRow_455 (fun M71 => ?_)
    refine n_iconst hC (0 : Int32) (by decide) dX5_takeRow_456 ?_
    refine n_istore hC [(7, .int (0 : Int32)), (0, .ref (b + a0)), (1, .int x1), (2, .int x2), (4, .int x4)] (by decide) rfl dX5_takeRow_457 ?_
    refine GN.sub [1, 2, 3, 0] rfl (b_X5_takeRow_459 hC a0 x1 x2 (0 : Int32) h0 _ (fun v72 M73 => ?_) M71)
    refine n_aload_n hC 0 rfl dX5_takeRow_515 ?_
    refine n_get hC clX5 h0 17 (.ref (b + (rf a0 17))) (by decide) rfl fl_X5_46 rfl dX5_takeRow_516 ?_
    refine n_iload_n hC 1 rfl dX5_takeRow_519 ?_
    refine n_aload_n hC 0 rfl dX5_takeRow_520 ?_
    refine n_get hC clX5 h0 40 (.long (M73.2 a0 40)) (by decide) rfl fl_X5_239 rfl dX5_takeRow_521 ?_
    refine n_l2i hC dX5_takeRow_524 ?_
    refine n_iast hC (kf_X5_17 h0) dX5_takeRow_525 (fun M74 => ?_)
    refine n_aload_n hC 0 rfl dX5_takeRow_526 ?_
    refine n_get hC clX5 h0 18 (.ref (b + (rf a0 18))) (by decide) rfl fl_X5_49 rfl dX5_takeRow_527 ?_
    refine n_iload_n hC 1 rfl dX5_takeRow_530 ?_
    refine n_aload_n hC 0 rfl dX5_takeRow_531 ?_
    refine n_iload_n hC 2 rfl dX5_takeRow_532 ?_
    refine n_bipush hC (16 : Int32) (by decide) dX5_takeRow_533 ?_
    refine n_iadd hC dX5_takeRow_535 ?_
    refine n_callVl (As := [.int (x2 + (16 : Int32))]) (rest := [.int x1, .ref (b + (rf a0 18))]) h0 rfl (by decide) hC (c_X5_four l M74 a0 (x2 + (16 : Int32)) h0) my_X5_four ml_X5_196 rfl rfl rfl (Nat.le_of_ble_eq_true rfl) ⟨by decide, by decide⟩ dX5_takeRow_536 (fun r75 M76 => ?_)
    refine n_l2i hC dX5_takeRow_539 ?_
    refine n_iast hC (kf_X5_18 h0) dX5_takeRow_540 (fun M77 => ?_)
    refine n_aload_n hC 0 rfl dX5_takeRow_541 ?_
    refine n_get hC clX5 h0 19 (.ref (b + (rf a0 19))) (by decide) rfl fl_X5_52 rfl dX5_takeRow_542 ?_
    refine n_iload_n hC 1 rfl dX5_takeRow_545 ?_
    refine n_iconst hC (1 : Int32) (by decide) dX5_takeRow_546 ?_
    refine n_zast hC (kf_X5_19 h0) dX5_takeRow_547 (fun M78 => ?_)
    exact n_vret hC dX5_takeRow_548
  refine n_aload_n hC 1 rfl dX5_takeRow_262 ?_
  refine n_aload_n hC 1 rfl dX5_takeRow_263 ?_
  refine n_iload hC 0 rfl dX5_takeRow_264 ?_
  refine n_iconst hC (4 : Int32) (by decide) dX5_takeRow_266 ?_
  refine n_iadd hC dX5_takeRow_267 ?_
  refine n_callVl (As := [.int (v31 + (4 : Int32))]) (rest := [.ref (b + a0)]) h0 rfl (by decide) hC (c_X5_eight l M30 a0 (v31 + (4 : Int32)) h0) my_X5_eight ml_X5_252 rfl rfl rfl (Nat.le_of_ble_eq_true rfl) ⟨by decide, by decide⟩ dX5_takeRow_268 (fun r79 M80 => ?_)
  refine n_putL hC clX5 h0 40 (by decide) rfl rfl rfl fl_X5_239 dX5_takeRow_271 (fun M81 => ?_)
  refine n_aload_n hC 1 rfl dX5_takeRow_274 ?_
  refine n_aload_n hC 1 rfl dX5_takeRow_275 ?_
  refine n_iload hC 0 rfl dX5_takeRow_276 ?_
  refine n_bipush hC (12 : Int32) (by decide) dX5_takeRow_278 ?_
  refine n_iadd hC dX5_takeRow_280 ?_
  refine n_callVl (As := [.int (v31 + (12 : Int32))]) (rest := [.ref (b + a0)]) h0 rfl (by decide) hC (c_X5_eight l M81 a0 (v31 + (12 : Int32)) h0) my_X5_eight ml_X5_252 rfl rfl rfl (Nat.le_of_ble_eq_true rfl) ⟨by decide, by decide⟩ dX5_takeRow_281 (fun r82 M83 => ?_)
  refine n_putL hC clX5 h0 39 (by decide) rfl rfl rfl fl_X5_235 dX5_takeRow_284 (fun M84 => ?_)
  refine n_iincB hC (20 : Int32) (by decide) (fun v85 => [(6, .int v85), (0, .ref (b + a0)), (1, .int x1), (2, .int x2), (3, .int x3), (4, .int x4)]) 0 rfl (by decide) (fun _ => rfl) dX5_takeRow_287 (fun v85 => ?_)
  refine GN.sub [1, 2, 3, 5, 0] rfl (b_X5_takeRow_290 hC a0 x1 x2 x4 v85 h0 _ (fun v86 M87 => ?_) M84)
  refine n_aload_n hC 0 rfl dX5_takeRow_422 ?_
  refine n_get hC clX5 h0 20 (.ref (b + (rf a0 20))) (by decide) rfl fl_X5_55 rfl dX5_takeRow_423 ?_
  refine n_iload_n hC 1 rfl dX5_takeRow_426 ?_
  refine n_aload_n hC 0 rfl dX5_takeRow_427 ?_
  refine n_get hC clX5 h0 41 (.long (M87.2 a0 41)) (by decide) rfl fl_X5_242 rfl dX5_takeRow_428 ?_
  refine n_l2i hC dX5_takeRow_431 ?_
  refine n_iast hC (kf_X5_20 h0) dX5_takeRow_432 (fun M88 => ?_)
  refine n_iload hC 3 rfl dX5_takeRow_433 ?_
  refine n_if_ne hC 548 dX5_takeRow_435 (by decide) ?_ ?_
  · exact n_vret hC dX5_takeRow_548
  refine n_aload_n hC 0 rfl dX5_takeRow_438 ?_
  refine n_get hC clX5 h0 14 (.ref (b + (rf a0 14))) (by decide) rfl fl_X5_39 rfl dX5_takeRow_439 ?_
  refine n_iload_n hC 1 rfl dX5_takeRow_442 ?_
  refine n_iconst hC (1 : Int32) (by decide) dX5_takeRow_443 ?_
  refine n_zast hC (kf_X5_14 h0) dX5_takeRow_444 (fun M89 => ?_)
  refine n_aload_n hC 0 rfl dX5_takeRow_445 ?_
  refine n_get hC clX5 h0 15 (.ref (b + (rf a0 15))) (by decide) rfl fl_X5_43 rfl dX5_takeRow_446 ?_
  refine n_iload_n hC 1 rfl dX5_takeRow_449 ?_
  refine n_aload_n hC 0 rfl dX5_takeRow_450 ?_
  refine n_get hC clX5 h0 39 (.long (M89.2 a0 39)) (by decide) rfl fl_X5_235 rfl dX5_takeRow_451 ?_
  refine n_l2i hC dX5_takeRow_454 ?_
  refine n_iast hC (kf_X5_15 h0) dX5_takeRow_455 (fun M90 => ?_)
  refine n_iconst hC (0 : Int32) (by decide) dX5_takeRow_456 ?_
  refine n_istore hC [(7, .int (0 : Int32)), (0, .ref (b + a0)), (1, .int x1), (2, .int x2), (4, .int x4)] (by decide) rfl dX5_takeRow_457 ?_
  refine GN.sub [1, 2, 3, 0] rfl (b_X5_takeRow_459 hC a0 x1 x2 (0 : Int32) h0 _ (fun v91 M92 => ?_) M90)
  refine n_aload_n hC 0 rfl dX5_takeRow_515 ?_
  refine n_get hC clX5 h0 17 (.ref (b + (rf a0 17))) (by decide) rfl fl_X5_46 rfl dX5_takeRow_516 ?_
  refine n_iload_n hC 1 rfl dX5_takeRow_519 ?_
  refine n_aload_n hC 0 rfl dX5_takeRow_520 ?_
  refine n_get hC clX5 h0 40 (.long (M92.2 a0 40)) (by decide) rfl fl_X5_239 rfl dX5_takeRow_521 ?_
  refine n_l2i hC dX5_takeRow_524 ?_
  refine n_iast hC (kf_X5_17 h0) dX5_takeRow_525 (fun M93 => ?_)
  refine n_aload_n hC 0 rfl dX5_takeRow_526 ?_
  refine n_get hC clX5 h0 18 (.ref (b + (rf a0 18))) (by decide) rfl fl_X5_49 rfl dX5_takeRow_527 ?_
  refine n_iload_n hC 1 rfl dX5_takeRow_530 ?_
  refine n_aload_n hC 0 rfl dX5_takeRow_531 ?_
  refine n_iload_n hC 2 rfl dX5_takeRow_532 ?_
  refine n_bipush hC (16 : Int32) (by decide) dX5_takeRow_533 ?_
  refine n_iadd hC dX5_takeRow_535 ?_
  refine n_callVl (As := [.int (x2 + (16 : Int32))]) (rest := [.int x1, .ref (b + (rf a0 18))]) h0 rfl (by decide) hC (c_X5_four l M93 a0 (x2 + (16 : Int32)) h0) my_X5_four ml_X5_196 rfl rfl rfl (Nat.le_of_ble_eq_true rfl) ⟨by decide, by decide⟩ dX5_takeRow_536 (fun r94 M95 => ?_)
  refine n_l2i hC dX5_takeRow_539 ?_
  refine n_iast hC (kf_X5_18 h0) dX5_takeRow_540 (fun M96 => ?_)
  refine n_aload_n hC 0 rfl dX5_takeRow_541 ?_
  refine n_get hC clX5 h0 19 (.ref (b + (rf a0 19))) (by decide) rfl fl_X5_52 rfl dX5_takeRow_542 ?_
  refine n_iload_n hC 1 rfl dX5_takeRow_545 ?_
  refine n_iconst hC (1 : Int32) (by decide) dX5_takeRow_546 ?_
  refine n_zast hC (kf_X5_19 h0) dX5_takeRow_547 (fun M97 => ?_)
  exact n_vret hC dX5_takeRow_548
def j_X5_takeRow_109 (a0 : Nat) (x1 : Int32) (x2 : Int32) (x3 : Int32) (x4 : Int32) (s0 : Int32) (s1 : Int32) (s2 : Nat) (M : Me) : Option (Unit × Me) := chk s1 (ln s2) (bnd (sI M s2 s1.toNatClampNeg s0) (fun M12 => cal (f_X5_two M12 a0 (x2 + (8 : Int32))) (fun r13 M14 => if r13 = (8 : Int32) then j_X5_takeRow_144 a0 x1 x2 x3 x4 (1 : Int32) x1 (rf a0 4) M14 else if (M14.1 a0 37) = (0 : Int32) then j_X5_takeRow_144 a0 x1 x2 x3 x4 (0 : Int32) x1 (rf a0 4) M14 else j_X5_takeRow_144 a0 x1 x2 x3 x4 (2 : Int32) x1 (rf a0 4) M14)))
set_option maxHeartbeats 4000000 in
set_option maxRecDepth 100000 in
theorem b_X5_takeRow_109 {p : Program} {l : Launch} {e : Env} {s : State} {m : MethodId} {args : Array Value} {below : List Frame} {meth : Method} {c : Code} {D : va_G} {T : Nat → ClassId} {b : Nat} (hC : CX p s m args meth c cX5_takeRow 9 RX5 none D T) (a0 : Nat) (x1 : Int32) (x2 : Int32) (x3 : Int32) (x4 : Int32) (s0 : Int32) (s1 : Int32) (s2 : Nat) (h0 : kd a0 = 5) (hs2 : kd s2 = 7) (M : Me) : GN p l e (k2_rm 3 63) s m args below meth c D T b 9 eV 109 [(0, .ref (b + a0)), (1, .int x1), (2, .int x2), (3, .int x3), (4, .int x4)] [.int s0, .int s1, .ref (b + s2)] M (j_X5_takeRow_109 a0 x1 x2 x3 x4 s0 s1 s2 M) := by
  unfold j_X5_takeRow_109
  refine n_iast hC hs2 dX5_takeRow_109 (fun M12 => ?_)
  refine n_aload_n hC 0 rfl dX5_takeRow_110 ?_
  refine n_get hC clX5 h0 4 (.ref (b + (rf a0 4))) (by decide) rfl fl_X5_75 rfl dX5_takeRow_111 ?_
  refine n_iload_n hC 1 rfl dX5_takeRow_114 ?_
  refine n_aload_n hC 0 rfl dX5_takeRow_115 ?_
  refine n_iload_n hC 2 rfl dX5_takeRow_116 ?_
  refine n_bipush hC (8 : Int32) (by decide) dX5_takeRow_117 ?_
  refine n_iadd hC dX5_takeRow_119 ?_
  refine n_callVi (As := [.int (x2 + (8 : Int32))]) (rest := [.int x1, .ref (b + (rf a0 4))]) h0 rfl (by decide) hC (c_X5_two l M12 a0 (x2 + (8 : Int32)) h0) my_X5_two ml_X5_193 rfl rfl rfl (Nat.le_of_ble_eq_true rfl) ⟨by decide, by decide⟩ dX5_takeRow_120 (fun r13 M14 => ?_)
  refine n_bipush hC (8 : Int32) (by decide) dX5_takeRow_123 ?_
  refine n_icmp_ne hC 132 dX5_takeRow_125 (by decide) ?_ ?_
  · refine n_aload_n hC 0 rfl dX5_takeRow_132 ?_
    refine n_get hC clX5 h0 37 (.int (M14.1 a0 37)) (by decide) rfl fl_X5_222 rfl dX5_takeRow_133 ?_
    refine n_if_eq hC 143 dX5_takeRow_136 (by decide) ?_ ?_
    · refine n_iconst hC (0 : Int32) (by decide) dX5_takeRow_143 ?_
      exact GN.sub [0, 1, 2, 3, 4] rfl (b_X5_takeRow_144 hC a0 x1 x2 x3 x4 (0 : Int32) x1 (rf a0 4) h0 (kf_X5_4 h0) M14)
    refine n_iconst hC (2 : Int32) (by decide) dX5_takeRow_139 ?_
    refine n_goto hC (tgt := 144) (by decide) dX5_takeRow_140 ?_
    exact GN.sub [0, 1, 2, 3, 4] rfl (b_X5_takeRow_144 hC a0 x1 x2 x3 x4 (2 : Int32) x1 (rf a0 4) h0 (kf_X5_4 h0) M14)
  refine n_iconst hC (1 : Int32) (by decide) dX5_takeRow_128 ?_
  refine n_goto hC (tgt := 144) (by decide) dX5_takeRow_129 ?_
  exact GN.sub [0, 1, 2, 3, 4] rfl (b_X5_takeRow_144 hC a0 x1 x2 x3 x4 (1 : Int32) x1 (rf a0 4) h0 (kf_X5_4 h0) M14)
def j_X5_takeRow_71 (a0 : Nat) (x1 : Int32) (x2 : Int32) (x3 : Int32) (s0 : Int32) (M : Me) : Option (Unit × Me) := cal (f_X5_two M a0 (x2 + (10 : Int32))) (fun r10 M11 => if s0 = (0 : Int32) then if r10 = (8 : Int32) then j_X5_takeRow_109 a0 x1 x2 x3 s0 (1 : Int32) x1 (rf a0 3) M11 else j_X5_takeRow_109 a0 x1 x2 x3 s0 (0 : Int32) x1 (rf a0 3) M11 else j_X5_takeRow_109 a0 x1 x2 x3 s0 (2 : Int32) x1 (rf a0 3) M11)
set_option maxHeartbeats 4000000 in
set_option maxRecDepth 100000 in
theorem b_X5_takeRow_71 {p : Program} {l : Launch} {e : Env} {s : State} {m : MethodId} {args : Array Value} {below : List Frame} {meth : Method} {c : Code} {D : va_G} {T : Nat → ClassId} {b : Nat} (hC : CX p s m args meth c cX5_takeRow 9 RX5 none D T) (a0 : Nat) (x1 : Int32) (x2 : Int32) (x3 : Int32) (s0 : Int32) (h0 : kd a0 = 5) (M : Me) : GN p l e (k2_rm 3 63) s m args below meth c D T b 9 eV 71 [(0, .ref (b + a0)), (1, .int x1), (2, .int x2), (3, .int x3)] [.int s0] M (j_X5_takeRow_71 a0 x1 x2 x3 s0 M) := by
  unfold j_X5_takeRow_71
  refine n_istore hC [(4, .int s0), (0, .ref (b + a0)), (1, .int x1), (2, .int x2), (3, .int x3)] (by decide) rfl dX5_takeRow_71 ?_
  refine n_aload_n hC 1 rfl dX5_takeRow_73 ?_
  refine n_iload_n hC 3 rfl dX5_takeRow_74 ?_
  refine n_bipush hC (10 : Int32) (by decide) dX5_takeRow_75 ?_
  refine n_iadd hC dX5_takeRow_77 ?_
  refine n_callVi (As := [.int (x2 + (10 : Int32))]) (rest := []) h0 rfl (by decide) hC (c_X5_two l M a0 (x2 + (10 : Int32)) h0) my_X5_two ml_X5_193 rfl rfl rfl (Nat.le_of_ble_eq_true rfl) ⟨by decide, by decide⟩ dX5_takeRow_78 (fun r10 M11 => ?_)
  refine n_istore hC [(5, .int r10), (4, .int s0), (0, .ref (b + a0)), (1, .int x1), (2, .int x2), (3, .int x3)] (by decide) rfl dX5_takeRow_81 ?_
  refine n_aload_n hC 2 rfl dX5_takeRow_83 ?_
  refine n_get hC clX5 h0 3 (.ref (b + (rf a0 3))) (by decide) rfl fl_X5_72 rfl dX5_takeRow_84 ?_
  refine n_iload_n hC 3 rfl dX5_takeRow_87 ?_
  refine n_iload hC 1 rfl dX5_takeRow_88 ?_
  refine n_if_eq hC 97 dX5_takeRow_90 (by decide) ?_ ?_
  · refine n_iload hC 0 rfl dX5_takeRow_97 ?_
    refine n_bipush hC (8 : Int32) (by decide) dX5_takeRow_99 ?_
    refine n_icmp_ne hC 108 dX5_takeRow_101 (by decide) ?_ ?_
    · refine n_iconst hC (0 : Int32) (by decide) dX5_takeRow_108 ?_
      exact GN.sub [2, 3, 4, 5, 1] rfl (b_X5_takeRow_109 hC a0 x1 x2 x3 s0 (0 : Int32) x1 (rf a0 3) h0 (kf_X5_3 h0) M11)
    refine n_iconst hC (1 : Int32) (by decide) dX5_takeRow_104 ?_
    refine n_goto hC (tgt := 109) (by decide) dX5_takeRow_105 ?_
    exact GN.sub [2, 3, 4, 5, 1] rfl (b_X5_takeRow_109 hC a0 x1 x2 x3 s0 (1 : Int32) x1 (rf a0 3) h0 (kf_X5_3 h0) M11)
  refine n_iconst hC (2 : Int32) (by decide) dX5_takeRow_93 ?_
  refine n_goto hC (tgt := 109) (by decide) dX5_takeRow_94 ?_
  exact GN.sub [2, 3, 4, 5, 1] rfl (b_X5_takeRow_109 hC a0 x1 x2 x3 s0 (2 : Int32) x1 (rf a0 3) h0 (kf_X5_3 h0) M11)
def f_X5_takeRow (M : Me) (a0 : Nat) (x1 : Int32) : Option (Unit × Me) := chk x1 (ln (rf a0 33)) (bndV (M.1 (rf a0 33) x1.toNatClampNeg) (fun v2 => cal (f_X5_layRow M a0 v2) (fun _ M4 => cal (f_X5_hasParts M4 a0 ((M4.1 a0 34) + (M4.1 a0 35)) (((M4.1 a0 34) + (M4.1 a0 35)) + (M4.1 a0 36))) (fun r5 M6 => cal (f_X5_begin M6 a0 x1) (fun _ M8 => chk (((M8.1 a0 34) + (M8.1 a0 35)) - (1 : Int32)) (ln (rf a0 23)) (if (M8.1 (rf a0 23) (((M8.1 a0 34) + (M8.1 a0 35)) - (1 : Int32)).toNatClampNeg) = (47 : Int32) then j_X5_takeRow_71 a0 x1 v2 r5 (1 : Int32) M8 else j_X5_takeRow_71 a0 x1 v2 r5 (0 : Int32) M8))))))
set_option maxHeartbeats 4000000 in
set_option maxRecDepth 100000 in
theorem c_X5_takeRow (l : Launch) (M : Me) (a0 : Nat) (x1 : Int32) (h0 : kd a0 = 5) : CN l yX5_takeRow cX5_takeRow 9 none (k2_rm 3 63) eV (fun b => [.ref (b + a0), .int x1]) M (f_X5_takeRow M a0 x1) := by
  refine CN.of RX5 (fun b => [(0, .ref (b + a0)), (1, .int x1)]) (by decide) rfl (fun b => Nat.le_of_ble_eq_true rfl) (fun b => rfl) ?_
  intro p e s m args below meth c D T b hC
  unfold f_X5_takeRow
  refine n_aload_n hC 0 rfl dX5_takeRow_0 ?_
  refine n_get hC clX5 h0 33 (.ref (b + (rf a0 33))) (by decide) rfl fl_X5_216 rfl dX5_takeRow_1 ?_
  refine n_iload_n hC 1 rfl dX5_takeRow_4 ?_
  refine n_iald hC (kf_X5_33 h0) dX5_takeRow_5 (fun g1 => ?_)
  refine n_istB_n hC rfl (fun v2 => [(2, .int v2), (0, .ref (b + a0)), (1, .int x1)]) (by decide) (fun _ => rfl) dX5_takeRow_6 (fun v2 => ?_)
  refine n_aload_n hC 1 rfl dX5_takeRow_7 ?_
  refine n_iload_n hC 0 rfl dX5_takeRow_8 ?_
  refine n_callVv (As := [.int v2]) (rest := []) h0 rfl (by decide) hC (c_X5_layRow l M a0 v2 h0) my_X5_layRow ml_X5_245 rfl rfl rfl (Nat.le_of_ble_eq_true rfl) ⟨by decide, by decide⟩ dX5_takeRow_9 (fun r3 M4 => ?_)
  refine n_aload_n hC 1 rfl dX5_takeRow_12 ?_
  refine n_aload_n hC 1 rfl dX5_takeRow_13 ?_
  refine n_get hC clX5 h0 34 (.int (M4.1 a0 34)) (by decide) rfl fl_X5_226 rfl dX5_takeRow_14 ?_
  refine n_aload_n hC 1 rfl dX5_takeRow_17 ?_
  refine n_get hC clX5 h0 35 (.int (M4.1 a0 35)) (by decide) rfl fl_X5_229 rfl dX5_takeRow_18 ?_
  refine n_iadd hC dX5_takeRow_21 ?_
  refine n_aload_n hC 1 rfl dX5_takeRow_22 ?_
  refine n_get hC clX5 h0 34 (.int (M4.1 a0 34)) (by decide) rfl fl_X5_226 rfl dX5_takeRow_23 ?_
  refine n_aload_n hC 1 rfl dX5_takeRow_26 ?_
  refine n_get hC clX5 h0 35 (.int (M4.1 a0 35)) (by decide) rfl fl_X5_229 rfl dX5_takeRow_27 ?_
  refine n_iadd hC dX5_takeRow_30 ?_
  refine n_aload_n hC 1 rfl dX5_takeRow_31 ?_
  refine n_get hC clX5 h0 36 (.int (M4.1 a0 36)) (by decide) rfl fl_X5_232 rfl dX5_takeRow_32 ?_
  refine n_iadd hC dX5_takeRow_35 ?_
  refine n_callVi (As := [.int ((M4.1 a0 34) + (M4.1 a0 35)), .int (((M4.1 a0 34) + (M4.1 a0 35)) + (M4.1 a0 36))]) (rest := []) h0 rfl (by decide) hC (c_X5_hasParts l M4 a0 ((M4.1 a0 34) + (M4.1 a0 35)) (((M4.1 a0 34) + (M4.1 a0 35)) + (M4.1 a0 36)) h0) my_X5_hasParts ml_X5_248 rfl rfl rfl (Nat.le_of_ble_eq_true rfl) ⟨by decide, by decide⟩ dX5_takeRow_36 (fun r5 M6 => ?_)
  refine n_istore_n hC rfl [(3, .int r5), (2, .int v2), (0, .ref (b + a0)), (1, .int x1)] (by decide) rfl dX5_takeRow_39 ?_
  refine n_aload_n hC 2 rfl dX5_takeRow_40 ?_
  refine n_iload_n hC 3 rfl dX5_takeRow_41 ?_
  refine n_callVv (As := [.int x1]) (rest := []) h0 rfl (by decide) hC (c_X5_begin l M6 a0 x1 h0) my_X5_begin ml_X5_68 rfl rfl rfl (Nat.le_of_ble_eq_true rfl) ⟨by decide, by decide⟩ dX5_takeRow_42 (fun r7 M8 => ?_)
  refine n_aload_n hC 2 rfl dX5_takeRow_45 ?_
  refine n_get hC clX5 h0 23 (.ref (b + (rf a0 23))) (by decide) rfl fl_X5_128 rfl dX5_takeRow_46 ?_
  refine n_aload_n hC 2 rfl dX5_takeRow_49 ?_
  refine n_get hC clX5 h0 34 (.int (M8.1 a0 34)) (by decide) rfl fl_X5_226 rfl dX5_takeRow_50 ?_
  refine n_aload_n hC 2 rfl dX5_takeRow_53 ?_
  refine n_get hC clX5 h0 35 (.int (M8.1 a0 35)) (by decide) rfl fl_X5_229 rfl dX5_takeRow_54 ?_
  refine n_iadd hC dX5_takeRow_57 ?_
  refine n_iconst hC (1 : Int32) (by decide) dX5_takeRow_58 ?_
  refine n_isub hC dX5_takeRow_59 ?_
  refine n_iald hC (kf_X5_23 h0) dX5_takeRow_60 (fun g9 => ?_)
  refine n_bipush hC (47 : Int32) (by decide) dX5_takeRow_61 ?_
  refine n_icmp_ne hC 70 dX5_takeRow_63 (by decide) ?_ ?_
  · refine n_iconst hC (0 : Int32) (by decide) dX5_takeRow_70 ?_
    exact GN.sub [2, 3, 1, 0] rfl (b_X5_takeRow_71 hC a0 x1 v2 r5 (0 : Int32) h0 M8)
  refine n_iconst hC (1 : Int32) (by decide) dX5_takeRow_66 ?_
  refine n_goto hC (tgt := 71) (by decide) dX5_takeRow_67 ?_
  exact GN.sub [2, 3, 1, 0] rfl (b_X5_takeRow_71 hC a0 x1 v2 r5 (1 : Int32) h0 M8)
def g_X5_read_27 (kx : Int32 → Me → Option (Int32 × Me)) (kb : Int32 × Me → Option (Int32 × Me)) (a0 : Nat) (x1 : Int32) (M : Me) : Option (Int32 × Me) := if (M.1 a0 30) ≤ x1 then kx x1 M else if (M.1 a0 27) = (0 : Int32) then cal (f_X5_checkRow M a0 x1) (fun _ M6 => bndV (x1 + (1 : Int32)) (fun v7 => kb (v7, M6))) else kx x1 M
set_option maxHeartbeats 4000000 in
set_option maxRecDepth 100000 in
theorem b_X5_read_27_g {p : Program} {l : Launch} {e : Env} {s : State} {m : MethodId} {args : Array Value} {below : List Frame} {meth : Method} {c : Code} {D : va_G} {T : Nat → ClassId} {b : Nat} (hC : CX p s m args meth c cX5_read 2 RX5 (some .int) D T) (a0 : Nat) (x1 : Int32) (h0 : kd a0 = 5) (kx : Int32 → Me → Option (Int32 × Me)) (hkx : ∀ (x1 : Int32) (M : Me), GN p l e (k2_rm 4 98) s m args below meth c D T b 2 eI 53 [(0, .ref (b + a0))] [] M (kx x1 M)) (kb : Int32 × Me → Option (Int32 × Me)) (hkb : ∀ z : Int32 × Me, GN p l e (k2_rm 4 98) s m args below meth c D T b 2 eI 27 [(0, .ref (b + a0)), (1, .int z.1)] [] z.2 (kb z)) (M : Me) : GN p l e (k2_rm 4 98) s m args below meth c D T b 2 eI 27 [(0, .ref (b + a0)), (1, .int x1)] [] M (g_X5_read_27 kx kb a0 x1 M) := by
  unfold g_X5_read_27
  refine n_iload_n hC 1 rfl dX5_read_27 ?_
  refine n_aload_n hC 0 rfl dX5_read_28 ?_
  refine n_get hC clX5 h0 30 (.int (M.1 a0 30)) (by decide) rfl fl_X5_207 rfl dX5_read_29 ?_
  refine n_icmp_ge hC 53 dX5_read_32 (by decide) ?_ ?_
  · exact GN.sub [0] rfl (hkx x1 M)
  refine n_aload_n hC 0 rfl dX5_read_35 ?_
  refine n_get hC clX5 h0 27 (.int (M.1 a0 27)) (by decide) rfl fl_X5_187 rfl dX5_read_36 ?_
  refine n_if_ne hC 53 dX5_read_39 (by decide) ?_ ?_
  · exact GN.sub [0] rfl (hkx x1 M)
  refine n_aload_n hC 0 rfl dX5_read_42 ?_
  refine n_iload_n hC 1 rfl dX5_read_43 ?_
  refine n_callVv (As := [.int x1]) (rest := []) h0 rfl (by decide) hC (c_X5_checkRow l M a0 x1 h0) my_X5_checkRow ml_X5_283 rfl rfl rfl (Nat.le_of_ble_eq_true rfl) ⟨by decide, by decide⟩ dX5_read_44 (fun r5 M6 => ?_)
  refine n_iincB hC (1 : Int32) (by decide) (fun v7 => [(1, .int v7), (0, .ref (b + a0))]) 1 rfl (by decide) (fun _ => rfl) dX5_read_47 (fun v7 => ?_)
  refine n_goto hC (tgt := 27) (by decide) dX5_read_50 ?_
  exact GN.sub [1, 0] rfl (hkb (v7, M6))
def l_X5_read_27 (kx : Int32 → Me → Option (Int32 × Me)) (a0 : Nat) (x1 : Int32) (M : Me) : Option (Int32 × Me) := lp (fun kb z => g_X5_read_27 kx kb a0 z.1 z.2) FU (x1, M)
set_option maxHeartbeats 4000000 in
set_option maxRecDepth 100000 in
theorem b_X5_read_27 {p : Program} {l : Launch} {e : Env} {s : State} {m : MethodId} {args : Array Value} {below : List Frame} {meth : Method} {c : Code} {D : va_G} {T : Nat → ClassId} {b : Nat} (hC : CX p s m args meth c cX5_read 2 RX5 (some .int) D T) (a0 : Nat) (x1 : Int32) (h0 : kd a0 = 5) (kx : Int32 → Me → Option (Int32 × Me)) (hkx : ∀ (x1 : Int32) (M : Me), GN p l e (k2_rm 4 98) s m args below meth c D T b 2 eI 53 [(0, .ref (b + a0))] [] M (kx x1 M)) (M : Me) : GN p l e (k2_rm 4 98) s m args below meth c D T b 2 eI 27 [(0, .ref (b + a0)), (1, .int x1)] [] M (l_X5_read_27 kx a0 x1 M) := by
  exact n_loop (σ := Int32 × Me) (fun z => [(0, .ref (b + a0)), (1, .int z.1)]) (fun z => z.2) (fun kb hkb z => b_X5_read_27_g hC a0 z.1 h0 kx hkx kb hkb z.2) FU (x1, M)
def g_X5_read_91 (kx : Int32 → Me → Option (Int32 × Me)) (kb : Int32 × Me → Option (Int32 × Me)) (a0 : Nat) (x1 : Int32) (M : Me) : Option (Int32 × Me) := if (M.1 a0 30) ≤ x1 then kx x1 M else cal (f_X5_takeRow M a0 x1) (fun _ M13 => bndV (x1 + (1 : Int32)) (fun v14 => kb (v14, M13)))
set_option maxHeartbeats 4000000 in
set_option maxRecDepth 100000 in
theorem b_X5_read_91_g {p : Program} {l : Launch} {e : Env} {s : State} {m : MethodId} {args : Array Value} {below : List Frame} {meth : Method} {c : Code} {D : va_G} {T : Nat → ClassId} {b : Nat} (hC : CX p s m args meth c cX5_read 2 RX5 (some .int) D T) (a0 : Nat) (x1 : Int32) (h0 : kd a0 = 5) (kx : Int32 → Me → Option (Int32 × Me)) (hkx : ∀ (x1 : Int32) (M : Me), GN p l e (k2_rm 4 98) s m args below meth c D T b 2 eI 110 [(0, .ref (b + a0))] [] M (kx x1 M)) (kb : Int32 × Me → Option (Int32 × Me)) (hkb : ∀ z : Int32 × Me, GN p l e (k2_rm 4 98) s m args below meth c D T b 2 eI 91 [(0, .ref (b + a0)), (1, .int z.1)] [] z.2 (kb z)) (M : Me) : GN p l e (k2_rm 4 98) s m args below meth c D T b 2 eI 91 [(0, .ref (b + a0)), (1, .int x1)] [] M (g_X5_read_91 kx kb a0 x1 M) := by
  unfold g_X5_read_91
  refine n_iload_n hC 1 rfl dX5_read_91 ?_
  refine n_aload_n hC 0 rfl dX5_read_92 ?_
  refine n_get hC clX5 h0 30 (.int (M.1 a0 30)) (by decide) rfl fl_X5_207 rfl dX5_read_93 ?_
  refine n_icmp_ge hC 110 dX5_read_96 (by decide) ?_ ?_
  · exact GN.sub [0] rfl (hkx x1 M)
  refine n_aload_n hC 0 rfl dX5_read_99 ?_
  refine n_iload_n hC 1 rfl dX5_read_100 ?_
  refine n_callVv (As := [.int x1]) (rest := []) h0 rfl (by decide) hC (c_X5_takeRow l M a0 x1 h0) my_X5_takeRow ml_X5_289 rfl rfl rfl (Nat.le_of_ble_eq_true rfl) ⟨by decide, by decide⟩ dX5_read_101 (fun r12 M13 => ?_)
  refine n_iincB hC (1 : Int32) (by decide) (fun v14 => [(1, .int v14), (0, .ref (b + a0))]) 1 rfl (by decide) (fun _ => rfl) dX5_read_104 (fun v14 => ?_)
  refine n_goto hC (tgt := 91) (by decide) dX5_read_107 ?_
  exact GN.sub [1, 0] rfl (hkb (v14, M13))
def l_X5_read_91 (kx : Int32 → Me → Option (Int32 × Me)) (a0 : Nat) (x1 : Int32) (M : Me) : Option (Int32 × Me) := lp (fun kb z => g_X5_read_91 kx kb a0 z.1 z.2) FU (x1, M)
set_option maxHeartbeats 4000000 in
set_option maxRecDepth 100000 in
theorem b_X5_read_91 {p : Program} {l : Launch} {e : Env} {s : State} {m : MethodId} {args : Array Value} {below : List Frame} {meth : Method} {c : Code} {D : va_G} {T : Nat → ClassId} {b : Nat} (hC : CX p s m args meth c cX5_read 2 RX5 (some .int) D T) (a0 : Nat) (x1 : Int32) (h0 : kd a0 = 5) (kx : Int32 → Me → Option (Int32 × Me)) (hkx : ∀ (x1 : Int32) (M : Me), GN p l e (k2_rm 4 98) s m args below meth c D T b 2 eI 110 [(0, .ref (b + a0))] [] M (kx x1 M)) (M : Me) : GN p l e (k2_rm 4 98) s m args below meth c D T b 2 eI 91 [(0, .ref (b + a0)), (1, .int x1)] [] M (l_X5_read_91 kx a0 x1 M) := by
  exact n_loop (σ := Int32 × Me) (fun z => [(0, .ref (b + a0)), (1, .int z.1)]) (fun z => z.2) (fun kb hkb z => b_X5_read_91_g hC a0 z.1 h0 kx hkx kb hkb z.2) FU (x1, M)
def g_X5_read_127 (kx : Int32 → Me → Option (Int32 × Me)) (kb : Int32 × Me → Option (Int32 × Me)) (a0 : Nat) (x1 : Int32) (M : Me) : Option (Int32 × Me) := if (M.1 a0 22) ≤ x1 then kx x1 M else chk (((M.1 a0 29) + (22 : Int32)) + x1) (ln (rf a0 23)) (chk x1 (ln (rf a0 21)) (bnd (sI M (rf a0 21) x1.toNatClampNeg (M.1 (rf a0 23) (((M.1 a0 29) + (22 : Int32)) + x1).toNatClampNeg)) (fun M21 => bndV (x1 + (1 : Int32)) (fun v22 => kb (v22, M21)))))
set_option maxHeartbeats 4000000 in
set_option maxRecDepth 100000 in
theorem b_X5_read_127_g {p : Program} {l : Launch} {e : Env} {s : State} {m : MethodId} {args : Array Value} {below : List Frame} {meth : Method} {c : Code} {D : va_G} {T : Nat → ClassId} {b : Nat} (hC : CX p s m args meth c cX5_read 2 RX5 (some .int) D T) (a0 : Nat) (x1 : Int32) (h0 : kd a0 = 5) (kx : Int32 → Me → Option (Int32 × Me)) (hkx : ∀ (x1 : Int32) (M : Me), GN p l e (k2_rm 4 98) s m args below meth c D T b 2 eI 161 [(0, .ref (b + a0))] [] M (kx x1 M)) (kb : Int32 × Me → Option (Int32 × Me)) (hkb : ∀ z : Int32 × Me, GN p l e (k2_rm 4 98) s m args below meth c D T b 2 eI 127 [(0, .ref (b + a0)), (1, .int z.1)] [] z.2 (kb z)) (M : Me) : GN p l e (k2_rm 4 98) s m args below meth c D T b 2 eI 127 [(0, .ref (b + a0)), (1, .int x1)] [] M (g_X5_read_127 kx kb a0 x1 M) := by
  unfold g_X5_read_127
  refine n_iload_n hC 1 rfl dX5_read_127 ?_
  refine n_aload_n hC 0 rfl dX5_read_128 ?_
  refine n_get hC clX5 h0 22 (.int (M.1 a0 22)) (by decide) rfl fl_X5_118 rfl dX5_read_129 ?_
  refine n_icmp_ge hC 161 dX5_read_132 (by decide) ?_ ?_
  · exact GN.sub [0] rfl (hkx x1 M)
  refine n_aload_n hC 0 rfl dX5_read_135 ?_
  refine n_get hC clX5 h0 21 (.ref (b + (rf a0 21))) (by decide) rfl fl_X5_115 rfl dX5_read_136 ?_
  refine n_iload_n hC 1 rfl dX5_read_139 ?_
  refine n_aload_n hC 0 rfl dX5_read_140 ?_
  refine n_get hC clX5 h0 23 (.ref (b + (rf a0 23))) (by decide) rfl fl_X5_128 rfl dX5_read_141 ?_
  refine n_aload_n hC 0 rfl dX5_read_144 ?_
  refine n_get hC clX5 h0 29 (.int (M.1 a0 29)) (by decide) rfl fl_X5_204 rfl dX5_read_145 ?_
  refine n_bipush hC (22 : Int32) (by decide) dX5_read_148 ?_
  refine n_iadd hC dX5_read_150 ?_
  refine n_iload_n hC 1 rfl dX5_read_151 ?_
  refine n_iadd hC dX5_read_152 ?_
  refine n_iald hC (kf_X5_23 h0) dX5_read_153 (fun g20 => ?_)
  refine n_iast hC (kf_X5_21 h0) dX5_read_154 (fun M21 => ?_)
  refine n_iincB hC (1 : Int32) (by decide) (fun v22 => [(1, .int v22), (0, .ref (b + a0))]) 1 rfl (by decide) (fun _ => rfl) dX5_read_155 (fun v22 => ?_)
  refine n_goto hC (tgt := 127) (by decide) dX5_read_158 ?_
  exact GN.sub [1, 0] rfl (hkb (v22, M21))
def l_X5_read_127 (kx : Int32 → Me → Option (Int32 × Me)) (a0 : Nat) (x1 : Int32) (M : Me) : Option (Int32 × Me) := lp (fun kb z => g_X5_read_127 kx kb a0 z.1 z.2) FU (x1, M)
set_option maxHeartbeats 4000000 in
set_option maxRecDepth 100000 in
theorem b_X5_read_127 {p : Program} {l : Launch} {e : Env} {s : State} {m : MethodId} {args : Array Value} {below : List Frame} {meth : Method} {c : Code} {D : va_G} {T : Nat → ClassId} {b : Nat} (hC : CX p s m args meth c cX5_read 2 RX5 (some .int) D T) (a0 : Nat) (x1 : Int32) (h0 : kd a0 = 5) (kx : Int32 → Me → Option (Int32 × Me)) (hkx : ∀ (x1 : Int32) (M : Me), GN p l e (k2_rm 4 98) s m args below meth c D T b 2 eI 161 [(0, .ref (b + a0))] [] M (kx x1 M)) (M : Me) : GN p l e (k2_rm 4 98) s m args below meth c D T b 2 eI 127 [(0, .ref (b + a0)), (1, .int x1)] [] M (l_X5_read_127 kx a0 x1 M) := by
  exact n_loop (σ := Int32 × Me) (fun z => [(0, .ref (b + a0)), (1, .int z.1)]) (fun z => z.2) (fun kb hkb z => b_X5_read_127_g hC a0 z.1 h0 kx hkx kb hkb z.2) FU (x1, M)
def j_X5_read_53 (a0 : Nat) (M : Me) : Option (Int32 × Me) := if (M.1 a0 27) ≤ (0 : Int32) then bnd (sI M a0 26 (-1 : Int32)) (fun M10 => bnd (sI M10 a0 2 (M10.1 a0 30)) (fun M11 => l_X5_read_91 (fun v15 M16 => cal (f_X5_two M16 a0 ((M16.1 a0 29) + (20 : Int32))) (fun r17 M18 => bnd (sI M18 a0 22 r17) (fun M19 => l_X5_read_127 (fun v23 M24 => some ((M24.1 a0 2), M24)) a0 (0 : Int32) M19))) a0 (0 : Int32) M11)) else bnd (sI M a0 26 (M.1 a0 28)) (fun M25 => some (((-10 : Int32) - (M25.1 a0 27)), M25))
set_option maxHeartbeats 4000000 in
set_option maxRecDepth 100000 in
theorem b_X5_read_53 {p : Program} {l : Launch} {e : Env} {s : State} {m : MethodId} {args : Array Value} {below : List Frame} {meth : Method} {c : Code} {D : va_G} {T : Nat → ClassId} {b : Nat} (hC : CX p s m args meth c cX5_read 2 RX5 (some .int) D T) (a0 : Nat) (h0 : kd a0 = 5) (M : Me) : GN p l e (k2_rm 4 98) s m args below meth c D T b 2 eI 53 [(0, .ref (b + a0))] [] M (j_X5_read_53 a0 M) := by
  unfold j_X5_read_53
  refine n_aload_n hC 0 rfl dX5_read_53 ?_
  refine n_get hC clX5 h0 27 (.int (M.1 a0 27)) (by decide) rfl fl_X5_187 rfl dX5_read_54 ?_
  refine n_if_le hC 76 dX5_read_57 (by decide) ?_ ?_
  · refine n_aload_n hC 0 rfl dX5_read_76 ?_
    refine n_iconst hC (-1 : Int32) (by decide) dX5_read_77 ?_
    refine n_putI hC clX5 h0 26 (by decide) rfl rfl rfl fl_X5_286 dX5_read_78 (fun M10 => ?_)
    refine n_aload_n hC 0 rfl dX5_read_81 ?_
    refine n_aload_n hC 0 rfl dX5_read_82 ?_
    refine n_get hC clX5 h0 30 (.int (M10.1 a0 30)) (by decide) rfl fl_X5_207 rfl dX5_read_83 ?_
    refine n_putI hC clX5 h0 2 (by decide) rfl rfl rfl fl_X5_10 dX5_read_86 (fun M11 => ?_)
    refine n_iconst hC (0 : Int32) (by decide) dX5_read_89 ?_
    refine n_istore_n hC rfl [(1, .int (0 : Int32)), (0, .ref (b + a0))] (by decide) rfl dX5_read_90 ?_
    refine GN.sub [1, 0] rfl (b_X5_read_91 hC a0 (0 : Int32) h0 _ (fun v15 M16 => ?_) M11)
    refine n_aload_n hC 0 rfl dX5_read_110 ?_
    refine n_aload_n hC 0 rfl dX5_read_111 ?_
    refine n_aload_n hC 0 rfl dX5_read_112 ?_
    refine n_get hC clX5 h0 29 (.int (M16.1 a0 29)) (by decide) rfl fl_X5_204 rfl dX5_read_113 ?_
    refine n_bipush hC (20 : Int32) (by decide) dX5_read_116 ?_
    refine n_iadd hC dX5_read_118 ?_
    refine n_callVi (As := [.int ((M16.1 a0 29) + (20 : Int32))]) (rest := [.ref (b + a0)]) h0 rfl (by decide) hC (c_X5_two l M16 a0 ((M16.1 a0 29) + (20 : Int32)) h0) my_X5_two ml_X5_193 rfl rfl rfl (Nat.le_of_ble_eq_true rfl) ⟨by decide, by decide⟩ dX5_read_119 (fun r17 M18 => ?_)
    refine n_putI hC clX5 h0 22 (by decide) rfl rfl rfl fl_X5_118 dX5_read_122 (fun M19 => ?_)
    refine n_iconst hC (0 : Int32) (by decide) dX5_read_125 ?_
    refine n_istore_n hC rfl [(1, .int (0 : Int32)), (0, .ref (b + a0))] (by decide) rfl dX5_read_126 ?_
    refine GN.sub [1, 0] rfl (b_X5_read_127 hC a0 (0 : Int32) h0 _ (fun v23 M24 => ?_) M19)
    refine n_aload_n hC 0 rfl dX5_read_161 ?_
    refine n_get hC clX5 h0 2 (.int (M24.1 a0 2)) (by decide) rfl fl_X5_10 rfl dX5_read_162 ?_
    exact n_iret hC dX5_read_165
  refine n_aload_n hC 0 rfl dX5_read_60 ?_
  refine n_aload_n hC 0 rfl dX5_read_61 ?_
  refine n_get hC clX5 h0 28 (.int (M.1 a0 28)) (by decide) rfl fl_X5_190 rfl dX5_read_62 ?_
  refine n_putI hC clX5 h0 26 (by decide) rfl rfl rfl fl_X5_286 dX5_read_65 (fun M25 => ?_)
  refine n_bipush hC (-10 : Int32) (by decide) dX5_read_68 ?_
  refine n_aload_n hC 0 rfl dX5_read_70 ?_
  refine n_get hC clX5 h0 27 (.int (M25.1 a0 27)) (by decide) rfl fl_X5_187 rfl dX5_read_71 ?_
  refine n_isub hC dX5_read_74 ?_
  exact n_iret hC dX5_read_75
def j_X5_read_25 (a0 : Nat) (M : Me) : Option (Int32 × Me) := l_X5_read_27 (fun v8 M9 => j_X5_read_53 a0 M9) a0 (0 : Int32) M
set_option maxHeartbeats 4000000 in
set_option maxRecDepth 100000 in
theorem b_X5_read_25 {p : Program} {l : Launch} {e : Env} {s : State} {m : MethodId} {args : Array Value} {below : List Frame} {meth : Method} {c : Code} {D : va_G} {T : Nat → ClassId} {b : Nat} (hC : CX p s m args meth c cX5_read 2 RX5 (some .int) D T) (a0 : Nat) (h0 : kd a0 = 5) (M : Me) : GN p l e (k2_rm 4 98) s m args below meth c D T b 2 eI 25 [(0, .ref (b + a0))] [] M (j_X5_read_25 a0 M) := by
  unfold j_X5_read_25
  refine n_iconst hC (0 : Int32) (by decide) dX5_read_25 ?_
  refine n_istore_n hC rfl [(1, .int (0 : Int32)), (0, .ref (b + a0))] (by decide) rfl dX5_read_26 ?_
  refine GN.sub [1, 0] rfl (b_X5_read_27 hC a0 (0 : Int32) h0 _ (fun v8 M9 => ?_) M)
  exact GN.sub [0] rfl (b_X5_read_53 hC a0 h0 M9)
def f_X5_read (M : Me) (a0 : Nat) : Option (Int32 × Me) := bnd (sI M a0 0 (0 : Int32)) (fun M1 => bnd (sI M1 a0 27 (0 : Int32)) (fun M2 => cal (f_X5_findEnd M2 a0) (fun _ M4 => if (M4.1 a0 27) = (0 : Int32) then cal (f_X5_findRows M4 a0) (fun _ M27 => j_X5_read_25 a0 M27) else j_X5_read_25 a0 M4)))
set_option maxHeartbeats 4000000 in
set_option maxRecDepth 100000 in
theorem c_X5_read (l : Launch) (M : Me) (a0 : Nat) (h0 : kd a0 = 5) : CN l yX5_read cX5_read 2 (some .int) (k2_rm 4 98) eI (fun b => [.ref (b + a0)]) M (f_X5_read M a0) := by
  refine CN.of RX5 (fun b => [(0, .ref (b + a0))]) (by decide) rfl (fun b => Nat.le_of_ble_eq_true rfl) (fun b => rfl) ?_
  intro p e s m args below meth c D T b hC
  unfold f_X5_read
  refine n_aload_n hC 0 rfl dX5_read_0 ?_
  refine n_iconst hC (0 : Int32) (by decide) dX5_read_1 ?_
  refine n_putI hC clX5 h0 0 (by decide) rfl rfl rfl fl_X5_1 dX5_read_2 (fun M1 => ?_)
  refine n_aload_n hC 0 rfl dX5_read_5 ?_
  refine n_iconst hC (0 : Int32) (by decide) dX5_read_6 ?_
  refine n_putI hC clX5 h0 27 (by decide) rfl rfl rfl fl_X5_187 dX5_read_7 (fun M2 => ?_)
  refine n_aload_n hC 0 rfl dX5_read_10 ?_
  refine n_callVv (As := []) (rest := []) h0 rfl (by decide) hC (c_X5_findEnd l M2 a0 h0) my_X5_findEnd ml_X5_276 rfl rfl rfl (Nat.le_of_ble_eq_true rfl) ⟨by decide, by decide⟩ dX5_read_11 (fun r3 M4 => ?_)
  refine n_aload_n hC 0 rfl dX5_read_14 ?_
  refine n_get hC clX5 h0 27 (.int (M4.1 a0 27)) (by decide) rfl fl_X5_187 rfl dX5_read_15 ?_
  refine n_if_ne hC 25 dX5_read_18 (by decide) ?_ ?_
  · exact GN.sub [0] rfl (b_X5_read_25 hC a0 h0 M4)
  refine n_aload_n hC 0 rfl dX5_read_21 ?_
  refine n_callVv (As := []) (rest := []) h0 rfl (by decide) hC (c_X5_findRows l M4 a0 h0) my_X5_findRows ml_X5_280 rfl rfl rfl (Nat.le_of_ble_eq_true rfl) ⟨by decide, by decide⟩ dX5_read_22 (fun r26 M27 => ?_)
  exact GN.sub [0] rfl (b_X5_read_25 hC a0 h0 M27)
