def f_X5_place (M : Me) (a0 : Nat) : Option (Int32 × Me) := bnd (sI M a0 0 (0 : Int32)) (fun M1 => some ((M1.1 a0 26), M1))
set_option maxHeartbeats 4000000 in
set_option maxRecDepth 100000 in
theorem c_X5_place (l : Launch) (M : Me) (a0 : Nat) (h0 : kd a0 = 5) : CN l yX5_place cX5_place 1 (some .int) (k2_rm 0 0) eI (fun b => [.ref (b + a0)]) M (f_X5_place M a0) := by
  refine CN.of RX5 (fun b => [(0, .ref (b + a0))]) (by decide) rfl (fun b => Nat.le_of_ble_eq_true rfl) (fun b => rfl) ?_
  intro p e s m args below meth c D T b hC
  unfold f_X5_place
  refine n_aload_n hC 0 rfl dX5_place_0 ?_
  refine n_iconst hC (0 : Int32) (by decide) dX5_place_1 ?_
  refine n_putI hC clX5 h0 0 (by decide) rfl rfl rfl fl_X5_1 dX5_place_2 (fun M1 => ?_)
  refine n_aload_n hC 0 rfl dX5_place_5 ?_
  refine n_get hC clX5 h0 26 (.int (M1.1 a0 26)) (by decide) rfl fl_X5_286 rfl dX5_place_6 ?_
  exact n_iret hC dX5_place_9
def g_X5_feed_38 (kx : Int32 → Me → Option (Int32 × Me)) (kb : Int32 × Me → Option (Int32 × Me)) (a0 : Nat) (y1 : Int64) (x3 : Int32) (x4 : Int32) (M : Me) : Option (Int32 × Me) := if x3 ≤ x4 then kx x4 M else cal (f_X5_byteOf M y1 x3 x4) (fun r4 M5 => chk (M.1 a0 24) (ln (rf a0 23)) (bnd (sI M5 (rf a0 23) (M.1 a0 24).toNatClampNeg r4) (fun M6 => bnd (sI M6 a0 24 ((M6.1 a0 24) + (1 : Int32))) (fun M7 => bndV (x4 + (1 : Int32)) (fun v8 => kb (v8, M7))))))
set_option maxHeartbeats 4000000 in
set_option maxRecDepth 100000 in
theorem b_X5_feed_38_g {p : Program} {l : Launch} {e : Env} {s : State} {m : MethodId} {args : Array Value} {below : List Frame} {meth : Method} {c : Code} {D : va_G} {T : Nat → ClassId} {b : Nat} (hC : CX p s m args meth c cX5_feed 5 RX5 (some .int) D T) (a0 : Nat) (y1 : Int64) (x3 : Int32) (x4 : Int32) (h0 : kd a0 = 5) (kx : Int32 → Me → Option (Int32 × Me)) (hkx : ∀ (x4 : Int32) (M : Me), GN p l e (k2_rm 1 25) s m args below meth c D T b 5 eI 76 [(0, .ref (b + a0))] [] M (kx x4 M)) (kb : Int32 × Me → Option (Int32 × Me)) (hkb : ∀ z : Int32 × Me, GN p l e (k2_rm 1 25) s m args below meth c D T b 5 eI 38 [(0, .ref (b + a0)), (1, .long y1), (3, .int x3), (4, .int z.1)] [] z.2 (kb z)) (M : Me) : GN p l e (k2_rm 1 25) s m args below meth c D T b 5 eI 38 [(0, .ref (b + a0)), (1, .long y1), (3, .int x3), (4, .int x4)] [] M (g_X5_feed_38 kx kb a0 y1 x3 x4 M) := by
  unfold g_X5_feed_38
  refine n_iload hC 3 rfl dX5_feed_38 ?_
  refine n_iload_n hC 2 rfl dX5_feed_40 ?_
  refine n_icmp_ge hC 76 dX5_feed_41 (by decide) ?_ ?_
  · exact GN.sub [0] rfl (hkx x4 M)
  refine n_aload_n hC 0 rfl dX5_feed_44 ?_
  refine n_get hC clX5 h0 23 (.ref (b + (rf a0 23))) (by decide) rfl fl_X5_128 rfl dX5_feed_45 ?_
  refine n_aload_n hC 0 rfl dX5_feed_48 ?_
  refine n_get hC clX5 h0 24 (.int (M.1 a0 24)) (by decide) rfl fl_X5_180 rfl dX5_feed_49 ?_
  refine n_lload_n hC 1 rfl dX5_feed_52 ?_
  refine n_iload_n hC 2 rfl dX5_feed_53 ?_
  refine n_iload hC 3 rfl dX5_feed_54 ?_
  refine n_callSi (As := [.long y1, .int x3, .int x4]) (rest := [.int (M.1 a0 24), .ref (b + (rf a0 23))]) hC (c_X5_byteOf l M y1 x3 x4) my_X5_byteOf ml_X5_19 rfl rfl rfl (Nat.le_of_ble_eq_true rfl) ⟨by decide, by decide⟩ dX5_feed_56 (fun r4 M5 => ?_)
  refine n_iast hC (kf_X5_23 h0) dX5_feed_59 (fun M6 => ?_)
  refine n_aload_n hC 0 rfl dX5_feed_60 ?_
  refine n_dup hC rfl dX5_feed_61 ?_
  refine n_get hC clX5 h0 24 (.int (M6.1 a0 24)) (by decide) rfl fl_X5_180 rfl dX5_feed_62 ?_
  refine n_iconst hC (1 : Int32) (by decide) dX5_feed_65 ?_
  refine n_iadd hC dX5_feed_66 ?_
  refine n_putI hC clX5 h0 24 (by decide) rfl rfl rfl fl_X5_180 dX5_feed_67 (fun M7 => ?_)
  refine n_iincB hC (1 : Int32) (by decide) (fun v8 => [(4, .int v8), (0, .ref (b + a0)), (1, .long y1), (3, .int x3)]) 3 rfl (by decide) (fun _ => rfl) dX5_feed_70 (fun v8 => ?_)
  refine n_goto hC (tgt := 38) (by decide) dX5_feed_73 ?_
  exact GN.sub [1, 2, 3, 0] rfl (hkb (v8, M7))
def l_X5_feed_38 (kx : Int32 → Me → Option (Int32 × Me)) (a0 : Nat) (y1 : Int64) (x3 : Int32) (x4 : Int32) (M : Me) : Option (Int32 × Me) := lp (fun kb z => g_X5_feed_38 kx kb a0 y1 x3 z.1 z.2) FU (x4, M)
set_option maxHeartbeats 4000000 in
set_option maxRecDepth 100000 in
theorem b_X5_feed_38 {p : Program} {l : Launch} {e : Env} {s : State} {m : MethodId} {args : Array Value} {below : List Frame} {meth : Method} {c : Code} {D : va_G} {T : Nat → ClassId} {b : Nat} (hC : CX p s m args meth c cX5_feed 5 RX5 (some .int) D T) (a0 : Nat) (y1 : Int64) (x3 : Int32) (x4 : Int32) (h0 : kd a0 = 5) (kx : Int32 → Me → Option (Int32 × Me)) (hkx : ∀ (x4 : Int32) (M : Me), GN p l e (k2_rm 1 25) s m args below meth c D T b 5 eI 76 [(0, .ref (b + a0))] [] M (kx x4 M)) (M : Me) : GN p l e (k2_rm 1 25) s m args below meth c D T b 5 eI 38 [(0, .ref (b + a0)), (1, .long y1), (3, .int x3), (4, .int x4)] [] M (l_X5_feed_38 kx a0 y1 x3 x4 M) := by
  exact n_loop (σ := Int32 × Me) (fun z => [(0, .ref (b + a0)), (1, .long y1), (3, .int x3), (4, .int z.1)]) (fun z => z.2) (fun kb hkb z => b_X5_feed_38_g hC a0 y1 x3 z.1 h0 kx hkx kb hkb z.2) FU (x4, M)
def f_X5_feed (M : Me) (a0 : Nat) (y1 : Int64) (x3 : Int32) : Option (Int32 × Me) := bnd (sI M a0 0 (0 : Int32)) (fun M1 => cal (f_X5_in M1 x3.toInt64 (1 : Int64) (8 : Int64)) (fun r2 M3 => if r2 = (0 : Int32) then some ((-3 : Int32), M3) else if ((M3.1 a0 24) + x3) ≤ (2000 : Int32) then l_X5_feed_38 (fun v9 M10 => some ((M10.1 a0 24), M10)) a0 y1 x3 (0 : Int32) M3 else some ((-5 : Int32), M3)))
set_option maxHeartbeats 4000000 in
set_option maxRecDepth 100000 in
theorem c_X5_feed (l : Launch) (M : Me) (a0 : Nat) (y1 : Int64) (x3 : Int32) (h0 : kd a0 = 5) : CN l yX5_feed cX5_feed 5 (some .int) (k2_rm 1 25) eI (fun b => [.ref (b + a0), .long y1, .int x3]) M (f_X5_feed M a0 y1 x3) := by
  refine CN.of RX5 (fun b => [(0, .ref (b + a0)), (1, .long y1), (3, .int x3)]) (by decide) rfl (fun b => Nat.le_of_ble_eq_true rfl) (fun b => rfl) ?_
  intro p e s m args below meth c D T b hC
  unfold f_X5_feed
  refine n_aload_n hC 0 rfl dX5_feed_0 ?_
  refine n_iconst hC (0 : Int32) (by decide) dX5_feed_1 ?_
  refine n_putI hC clX5 h0 0 (by decide) rfl rfl rfl fl_X5_1 dX5_feed_2 (fun M1 => ?_)
  refine n_iload_n hC 2 rfl dX5_feed_5 ?_
  refine n_i2l hC dX5_feed_6 ?_
  refine n_lconst hC (1 : Int64) (by decide) dX5_feed_7 ?_
  refine n_ldc2 hC (8 : Int64) kc_X5_60 dX5_feed_8 ?_
  refine n_callSi (As := [.long x3.toInt64, .long (1 : Int64), .long (8 : Int64)]) (rest := []) hC (c_X5_in l M1 x3.toInt64 (1 : Int64) (8 : Int64)) my_X5_in ml_X5_13 rfl rfl rfl (Nat.le_of_ble_eq_true rfl) ⟨by decide, by decide⟩ dX5_feed_11 (fun r2 M3 => ?_)
  refine n_if_ne hC 20 dX5_feed_14 (by decide) ?_ ?_
  · refine n_aload_n hC 0 rfl dX5_feed_20 ?_
    refine n_get hC clX5 h0 24 (.int (M3.1 a0 24)) (by decide) rfl fl_X5_180 rfl dX5_feed_21 ?_
    refine n_iload_n hC 2 rfl dX5_feed_24 ?_
    refine n_iadd hC dX5_feed_25 ?_
    refine n_sipush hC (2000 : Int32) (by decide) dX5_feed_26 ?_
    refine n_icmp_le hC 35 dX5_feed_29 (by decide) ?_ ?_
    · refine n_iconst hC (0 : Int32) (by decide) dX5_feed_35 ?_
      refine n_istore hC [(4, .int (0 : Int32)), (0, .ref (b + a0)), (1, .long y1), (3, .int x3)] (by decide) rfl dX5_feed_36 ?_
      refine GN.sub [1, 2, 3, 0] rfl (b_X5_feed_38 hC a0 y1 x3 (0 : Int32) h0 _ (fun v9 M10 => ?_) M3)
      refine n_aload_n hC 0 rfl dX5_feed_76 ?_
      refine n_get hC clX5 h0 24 (.int (M10.1 a0 24)) (by decide) rfl fl_X5_180 rfl dX5_feed_77 ?_
      exact n_iret hC dX5_feed_80
    refine n_bipush hC (-5 : Int32) (by decide) dX5_feed_32 ?_
    exact n_iret hC dX5_feed_34
  refine n_bipush hC (-3 : Int32) (by decide) dX5_feed_17 ?_
  exact n_iret hC dX5_feed_19
def f_X5_cut (M : Me) (a0 : Nat) (x1 : Int32) : Option (Int32 × Me) := bnd (sI M a0 0 (0 : Int32)) (fun M1 => cal (f_X5_in M1 x1.toInt64 (0 : Int64) (((M1.1 a0 24)).toInt64)) (fun r2 M3 => if r2 = (0 : Int32) then some ((-3 : Int32), M3) else bndV ((M3.1 a0 24) - x1) (fun v4 => bnd (sI M3 a0 24 x1) (fun M5 => some (v4, M5)))))
set_option maxHeartbeats 4000000 in
set_option maxRecDepth 100000 in
theorem c_X5_cut (l : Launch) (M : Me) (a0 : Nat) (x1 : Int32) (h0 : kd a0 = 5) : CN l yX5_cut cX5_cut 3 (some .int) (k2_rm 1 25) eI (fun b => [.ref (b + a0), .int x1]) M (f_X5_cut M a0 x1) := by
  refine CN.of RX5 (fun b => [(0, .ref (b + a0)), (1, .int x1)]) (by decide) rfl (fun b => Nat.le_of_ble_eq_true rfl) (fun b => rfl) ?_
  intro p e s m args below meth c D T b hC
  unfold f_X5_cut
  refine n_aload_n hC 0 rfl dX5_cut_0 ?_
  refine n_iconst hC (0 : Int32) (by decide) dX5_cut_1 ?_
  refine n_putI hC clX5 h0 0 (by decide) rfl rfl rfl fl_X5_1 dX5_cut_2 (fun M1 => ?_)
  refine n_iload_n hC 1 rfl dX5_cut_5 ?_
  refine n_i2l hC dX5_cut_6 ?_
  refine n_lconst hC (0 : Int64) (by decide) dX5_cut_7 ?_
  refine n_aload_n hC 0 rfl dX5_cut_8 ?_
  refine n_get hC clX5 h0 24 (.int (M1.1 a0 24)) (by decide) rfl fl_X5_180 rfl dX5_cut_9 ?_
  refine n_i2l hC dX5_cut_12 ?_
  refine n_callSi (As := [.long x1.toInt64, .long (0 : Int64), .long ((M1.1 a0 24)).toInt64]) (rest := []) hC (c_X5_in l M1 x1.toInt64 (0 : Int64) (((M1.1 a0 24)).toInt64)) my_X5_in ml_X5_13 rfl rfl rfl (Nat.le_of_ble_eq_true rfl) ⟨by decide, by decide⟩ dX5_cut_13 (fun r2 M3 => ?_)
  refine n_if_ne hC 22 dX5_cut_16 (by decide) ?_ ?_
  · refine n_aload_n hC 0 rfl dX5_cut_22 ?_
    refine n_get hC clX5 h0 24 (.int (M3.1 a0 24)) (by decide) rfl fl_X5_180 rfl dX5_cut_23 ?_
    refine n_iload_n hC 1 rfl dX5_cut_26 ?_
    refine n_isub hC dX5_cut_27 ?_
    refine n_istB_n hC rfl (fun v4 => [(2, .int v4), (0, .ref (b + a0)), (1, .int x1)]) (by decide) (fun _ => rfl) dX5_cut_28 (fun v4 => ?_)
    refine n_aload_n hC 1 rfl dX5_cut_29 ?_
    refine n_iload_n hC 2 rfl dX5_cut_30 ?_
    refine n_putI hC clX5 h0 24 (by decide) rfl rfl rfl fl_X5_180 dX5_cut_31 (fun M5 => ?_)
    refine n_iload_n hC 0 rfl dX5_cut_34 ?_
    exact n_iret hC dX5_cut_35
  refine n_bipush hC (-3 : Int32) (by decide) dX5_cut_19 ?_
  exact n_iret hC dX5_cut_21
def f_X5_poke (M : Me) (a0 : Nat) (x1 : Int32) (x2 : Int32) : Option (Int32 × Me) := bnd (sI M a0 0 (0 : Int32)) (fun M1 => cal (f_X5_in M1 x1.toInt64 (0 : Int64) ((((M1.1 a0 24) - (1 : Int32))).toInt64)) (fun r2 M3 => if r2 = (0 : Int32) then some ((-2 : Int32), M3) else cal (f_X5_in M3 x2.toInt64 (0 : Int64) (255 : Int64)) (fun r4 M5 => if r4 = (0 : Int32) then some ((-3 : Int32), M5) else chk x1 (ln (rf a0 23)) (chk x1 (ln (rf a0 23)) (bnd (sI M5 (rf a0 23) x1.toNatClampNeg ((M5.1 (rf a0 23) x1.toNatClampNeg) ^^^ x2)) (fun M7 => chk x1 (ln (rf a0 23)) (some ((M7.1 (rf a0 23) x1.toNatClampNeg), M7))))))))
set_option maxHeartbeats 4000000 in
set_option maxRecDepth 100000 in
theorem c_X5_poke (l : Launch) (M : Me) (a0 : Nat) (x1 : Int32) (x2 : Int32) (h0 : kd a0 = 5) : CN l yX5_poke cX5_poke 3 (some .int) (k2_rm 1 25) eI (fun b => [.ref (b + a0), .int x1, .int x2]) M (f_X5_poke M a0 x1 x2) := by
  refine CN.of RX5 (fun b => [(0, .ref (b + a0)), (1, .int x1), (2, .int x2)]) (by decide) rfl (fun b => Nat.le_of_ble_eq_true rfl) (fun b => rfl) ?_
  intro p e s m args below meth c D T b hC
  unfold f_X5_poke
  refine n_aload_n hC 0 rfl dX5_poke_0 ?_
  refine n_iconst hC (0 : Int32) (by decide) dX5_poke_1 ?_
  refine n_putI hC clX5 h0 0 (by decide) rfl rfl rfl fl_X5_1 dX5_poke_2 (fun M1 => ?_)
  refine n_iload_n hC 1 rfl dX5_poke_5 ?_
  refine n_i2l hC dX5_poke_6 ?_
  refine n_lconst hC (0 : Int64) (by decide) dX5_poke_7 ?_
  refine n_aload_n hC 0 rfl dX5_poke_8 ?_
  refine n_get hC clX5 h0 24 (.int (M1.1 a0 24)) (by decide) rfl fl_X5_180 rfl dX5_poke_9 ?_
  refine n_iconst hC (1 : Int32) (by decide) dX5_poke_12 ?_
  refine n_isub hC dX5_poke_13 ?_
  refine n_i2l hC dX5_poke_14 ?_
  refine n_callSi (As := [.long x1.toInt64, .long (0 : Int64), .long (((M1.1 a0 24) - (1 : Int32))).toInt64]) (rest := []) hC (c_X5_in l M1 x1.toInt64 (0 : Int64) ((((M1.1 a0 24) - (1 : Int32))).toInt64)) my_X5_in ml_X5_13 rfl rfl rfl (Nat.le_of_ble_eq_true rfl) ⟨by decide, by decide⟩ dX5_poke_15 (fun r2 M3 => ?_)
  refine n_if_ne hC 24 dX5_poke_18 (by decide) ?_ ?_
  · refine n_iload_n hC 2 rfl dX5_poke_24 ?_
    refine n_i2l hC dX5_poke_25 ?_
    refine n_lconst hC (0 : Int64) (by decide) dX5_poke_26 ?_
    refine n_ldc2 hC (255 : Int64) kc_X5_17 dX5_poke_27 ?_
    refine n_callSi (As := [.long x2.toInt64, .long (0 : Int64), .long (255 : Int64)]) (rest := []) hC (c_X5_in l M3 x2.toInt64 (0 : Int64) (255 : Int64)) my_X5_in ml_X5_13 rfl rfl rfl (Nat.le_of_ble_eq_true rfl) ⟨by decide, by decide⟩ dX5_poke_30 (fun r4 M5 => ?_)
    refine n_if_ne hC 39 dX5_poke_33 (by decide) ?_ ?_
    · refine n_aload_n hC 0 rfl dX5_poke_39 ?_
      refine n_get hC clX5 h0 23 (.ref (b + (rf a0 23))) (by decide) rfl fl_X5_128 rfl dX5_poke_40 ?_
      refine n_iload_n hC 1 rfl dX5_poke_43 ?_
      refine n_dup2 hC rfl rfl dX5_poke_44 ?_
      refine n_iald hC (kf_X5_23 h0) dX5_poke_45 (fun g6 => ?_)
      refine n_iload_n hC 2 rfl dX5_poke_46 ?_
      refine n_ixor hC dX5_poke_47 ?_
      refine n_iast hC (kf_X5_23 h0) dX5_poke_48 (fun M7 => ?_)
      refine n_aload_n hC 0 rfl dX5_poke_49 ?_
      refine n_get hC clX5 h0 23 (.ref (b + (rf a0 23))) (by decide) rfl fl_X5_128 rfl dX5_poke_50 ?_
      refine n_iload_n hC 1 rfl dX5_poke_53 ?_
      refine n_iald hC (kf_X5_23 h0) dX5_poke_54 (fun g8 => ?_)
      exact n_iret hC dX5_poke_55
    refine n_bipush hC (-3 : Int32) (by decide) dX5_poke_36 ?_
    exact n_iret hC dX5_poke_38
  refine n_bipush hC (-2 : Int32) (by decide) dX5_poke_21 ?_
  exact n_iret hC dX5_poke_23
def f_X5_isThere (M : Me) (a0 : Nat) (x1 : Int32) (x2 : Int32) : Option (Int32 × Me) := cal (f_X5_in M x1.toInt64 (0 : Int64) (((M.1 a0 24)).toInt64 - x2.toInt64)) (fun r1 M2 => chZ r1 (some (r1, M2)))
set_option maxHeartbeats 4000000 in
set_option maxRecDepth 100000 in
theorem c_X5_isThere (l : Launch) (M : Me) (a0 : Nat) (x1 : Int32) (x2 : Int32) (h0 : kd a0 = 5) : CN l yX5_isThere cX5_isThere 3 (some .boolean) (k2_rm 1 25) eI (fun b => [.ref (b + a0), .int x1, .int x2]) M (f_X5_isThere M a0 x1 x2) := by
  refine CN.of RX5 (fun b => [(0, .ref (b + a0)), (1, .int x1), (2, .int x2)]) (by decide) rfl (fun b => Nat.le_of_ble_eq_true rfl) (fun b => rfl) ?_
  intro p e s m args below meth c D T b hC
  unfold f_X5_isThere
  refine n_iload_n hC 1 rfl dX5_isThere_0 ?_
  refine n_i2l hC dX5_isThere_1 ?_
  refine n_lconst hC (0 : Int64) (by decide) dX5_isThere_2 ?_
  refine n_aload_n hC 0 rfl dX5_isThere_3 ?_
  refine n_get hC clX5 h0 24 (.int (M.1 a0 24)) (by decide) rfl fl_X5_180 rfl dX5_isThere_4 ?_
  refine n_i2l hC dX5_isThere_7 ?_
  refine n_iload_n hC 2 rfl dX5_isThere_8 ?_
  refine n_i2l hC dX5_isThere_9 ?_
  refine n_lsub hC dX5_isThere_10 ?_
  refine n_callSi (As := [.long x1.toInt64, .long (0 : Int64), .long (((M.1 a0 24)).toInt64 - x2.toInt64)]) (rest := []) hC (c_X5_in l M x1.toInt64 (0 : Int64) (((M.1 a0 24)).toInt64 - x2.toInt64)) my_X5_in ml_X5_13 rfl rfl rfl (Nat.le_of_ble_eq_true rfl) ⟨by decide, by decide⟩ dX5_isThere_11 (fun r1 M2 => ?_)
  exact n_zret hC dX5_isThere_14
def f_X5_at (M : Me) (a0 : Nat) (x1 : Int32) : Option (Int32 × Me) := bnd (sI M a0 0 (0 : Int32)) (fun M1 => cal (f_X5_isThere M1 a0 x1 (1 : Int32)) (fun r2 M3 => if r2 = (0 : Int32) then cal (f_X5_fails M3 a0 (3 : Int32)) (fun r4 M5 => some (r4, M5)) else chk x1 (ln (rf a0 23)) (some ((M3.1 (rf a0 23) x1.toNatClampNeg), M3))))
set_option maxHeartbeats 4000000 in
set_option maxRecDepth 100000 in
theorem c_X5_at (l : Launch) (M : Me) (a0 : Nat) (x1 : Int32) (h0 : kd a0 = 5) : CN l yX5_at cX5_at 2 (some .int) (k2_rm 2 47) eI (fun b => [.ref (b + a0), .int x1]) M (f_X5_at M a0 x1) := by
  refine CN.of RX5 (fun b => [(0, .ref (b + a0)), (1, .int x1)]) (by decide) rfl (fun b => Nat.le_of_ble_eq_true rfl) (fun b => rfl) ?_
  intro p e s m args below meth c D T b hC
  unfold f_X5_at
  refine n_aload_n hC 0 rfl dX5_at_0 ?_
  refine n_iconst hC (0 : Int32) (by decide) dX5_at_1 ?_
  refine n_putI hC clX5 h0 0 (by decide) rfl rfl rfl fl_X5_1 dX5_at_2 (fun M1 => ?_)
  refine n_aload_n hC 0 rfl dX5_at_5 ?_
  refine n_iload_n hC 1 rfl dX5_at_6 ?_
  refine n_iconst hC (1 : Int32) (by decide) dX5_at_7 ?_
  refine n_callVi (As := [.int x1, .int (1 : Int32)]) (rest := []) h0 rfl (by decide) hC (c_X5_isThere l M1 a0 x1 (1 : Int32) h0) my_X5_isThere ml_X5_292 rfl rfl rfl (Nat.le_of_ble_eq_true rfl) ⟨by decide, by decide⟩ dX5_at_8 (fun r2 M3 => ?_)
  refine n_if_eq hC 23 dX5_at_11 (by decide) ?_ ?_
  · refine n_aload_n hC 0 rfl dX5_at_23 ?_
    refine n_iconst hC (3 : Int32) (by decide) dX5_at_24 ?_
    refine n_callVi (As := [.int (3 : Int32)]) (rest := []) h0 rfl (by decide) hC (c_X5_fails l M3 a0 (3 : Int32) h0) my_X5_fails ml_X5_85 rfl rfl rfl (Nat.le_of_ble_eq_true rfl) ⟨by decide, by decide⟩ dX5_at_25 (fun r4 M5 => ?_)
    exact n_iret hC dX5_at_28
  refine n_aload_n hC 0 rfl dX5_at_14 ?_
  refine n_get hC clX5 h0 23 (.ref (b + (rf a0 23))) (by decide) rfl fl_X5_128 rfl dX5_at_15 ?_
  refine n_iload_n hC 1 rfl dX5_at_18 ?_
  refine n_iald hC (kf_X5_23 h0) dX5_at_19 (fun g6 => ?_)
  refine n_goto hC (tgt := 28) (by decide) dX5_at_20 ?_
  exact n_iret hC dX5_at_28
def f_X5_half (M : Me) (a0 : Nat) (x1 : Int32) : Option (Int32 × Me) := bnd (sI M a0 0 (0 : Int32)) (fun M1 => cal (f_X5_isThere M1 a0 x1 (2 : Int32)) (fun r2 M3 => if r2 = (0 : Int32) then cal (f_X5_fails M3 a0 (3 : Int32)) (fun r4 M5 => some (r4, M5)) else cal (f_X5_two M3 a0 x1) (fun r6 M7 => some (r6, M7))))
set_option maxHeartbeats 4000000 in
set_option maxRecDepth 100000 in
theorem c_X5_half (l : Launch) (M : Me) (a0 : Nat) (x1 : Int32) (h0 : kd a0 = 5) : CN l yX5_half cX5_half 2 (some .int) (k2_rm 2 47) eI (fun b => [.ref (b + a0), .int x1]) M (f_X5_half M a0 x1) := by
  refine CN.of RX5 (fun b => [(0, .ref (b + a0)), (1, .int x1)]) (by decide) rfl (fun b => Nat.le_of_ble_eq_true rfl) (fun b => rfl) ?_
  intro p e s m args below meth c D T b hC
  unfold f_X5_half
  refine n_aload_n hC 0 rfl dX5_half_0 ?_
  refine n_iconst hC (0 : Int32) (by decide) dX5_half_1 ?_
  refine n_putI hC clX5 h0 0 (by decide) rfl rfl rfl fl_X5_1 dX5_half_2 (fun M1 => ?_)
  refine n_aload_n hC 0 rfl dX5_half_5 ?_
  refine n_iload_n hC 1 rfl dX5_half_6 ?_
  refine n_iconst hC (2 : Int32) (by decide) dX5_half_7 ?_
  refine n_callVi (As := [.int x1, .int (2 : Int32)]) (rest := []) h0 rfl (by decide) hC (c_X5_isThere l M1 a0 x1 (2 : Int32) h0) my_X5_isThere ml_X5_292 rfl rfl rfl (Nat.le_of_ble_eq_true rfl) ⟨by decide, by decide⟩ dX5_half_8 (fun r2 M3 => ?_)
  refine n_if_eq hC 22 dX5_half_11 (by decide) ?_ ?_
  · refine n_aload_n hC 0 rfl dX5_half_22 ?_
    refine n_iconst hC (3 : Int32) (by decide) dX5_half_23 ?_
    refine n_callVi (As := [.int (3 : Int32)]) (rest := []) h0 rfl (by decide) hC (c_X5_fails l M3 a0 (3 : Int32) h0) my_X5_fails ml_X5_85 rfl rfl rfl (Nat.le_of_ble_eq_true rfl) ⟨by decide, by decide⟩ dX5_half_24 (fun r4 M5 => ?_)
    exact n_iret hC dX5_half_27
  refine n_aload_n hC 0 rfl dX5_half_14 ?_
  refine n_iload_n hC 1 rfl dX5_half_15 ?_
  refine n_callVi (As := [.int x1]) (rest := []) h0 rfl (by decide) hC (c_X5_two l M3 a0 x1 h0) my_X5_two ml_X5_193 rfl rfl rfl (Nat.le_of_ble_eq_true rfl) ⟨by decide, by decide⟩ dX5_half_16 (fun r6 M7 => ?_)
  refine n_goto hC (tgt := 27) (by decide) dX5_half_19 ?_
  exact n_iret hC dX5_half_27
def f_X5_word (M : Me) (a0 : Nat) (x1 : Int32) : Option (Int64 × Me) := bnd (sI M a0 0 (0 : Int32)) (fun M1 => cal (f_X5_isThere M1 a0 x1 (4 : Int32)) (fun r2 M3 => if r2 = (0 : Int32) then cal (f_X5_fails M3 a0 (3 : Int32)) (fun r4 M5 => some (r4.toInt64, M5)) else cal (f_X5_four M3 a0 x1) (fun r6 M7 => some (r6, M7))))
set_option maxHeartbeats 4000000 in
set_option maxRecDepth 100000 in
theorem c_X5_word (l : Launch) (M : Me) (a0 : Nat) (x1 : Int32) (h0 : kd a0 = 5) : CN l yX5_word cX5_word 2 (some .long) (k2_rm 2 47) eL (fun b => [.ref (b + a0), .int x1]) M (f_X5_word M a0 x1) := by
  refine CN.of RX5 (fun b => [(0, .ref (b + a0)), (1, .int x1)]) (by decide) rfl (fun b => Nat.le_of_ble_eq_true rfl) (fun b => rfl) ?_
  intro p e s m args below meth c D T b hC
  unfold f_X5_word
  refine n_aload_n hC 0 rfl dX5_word_0 ?_
  refine n_iconst hC (0 : Int32) (by decide) dX5_word_1 ?_
  refine n_putI hC clX5 h0 0 (by decide) rfl rfl rfl fl_X5_1 dX5_word_2 (fun M1 => ?_)
  refine n_aload_n hC 0 rfl dX5_word_5 ?_
  refine n_iload_n hC 1 rfl dX5_word_6 ?_
  refine n_iconst hC (4 : Int32) (by decide) dX5_word_7 ?_
  refine n_callVi (As := [.int x1, .int (4 : Int32)]) (rest := []) h0 rfl (by decide) hC (c_X5_isThere l M1 a0 x1 (4 : Int32) h0) my_X5_isThere ml_X5_292 rfl rfl rfl (Nat.le_of_ble_eq_true rfl) ⟨by decide, by decide⟩ dX5_word_8 (fun r2 M3 => ?_)
  refine n_if_eq hC 22 dX5_word_11 (by decide) ?_ ?_
  · refine n_aload_n hC 0 rfl dX5_word_22 ?_
    refine n_iconst hC (3 : Int32) (by decide) dX5_word_23 ?_
    refine n_callVi (As := [.int (3 : Int32)]) (rest := []) h0 rfl (by decide) hC (c_X5_fails l M3 a0 (3 : Int32) h0) my_X5_fails ml_X5_85 rfl rfl rfl (Nat.le_of_ble_eq_true rfl) ⟨by decide, by decide⟩ dX5_word_24 (fun r4 M5 => ?_)
    refine n_i2l hC dX5_word_27 ?_
    exact n_lret hC dX5_word_28
  refine n_aload_n hC 0 rfl dX5_word_14 ?_
  refine n_iload_n hC 1 rfl dX5_word_15 ?_
  refine n_callVl (As := [.int x1]) (rest := []) h0 rfl (by decide) hC (c_X5_four l M3 a0 x1 h0) my_X5_four ml_X5_196 rfl rfl rfl (Nat.le_of_ble_eq_true rfl) ⟨by decide, by decide⟩ dX5_word_16 (fun r6 M7 => ?_)
  refine n_goto hC (tgt := 28) (by decide) dX5_word_19 ?_
  exact n_lret hC dX5_word_28
def j_X5_about_76 (a0 : Nat) (x1 : Int32) (M : Me) : Option (Int32 × Me) := chk x1 (ln (rf a0 3)) (some ((M.1 (rf a0 3) x1.toNatClampNeg), M))
set_option maxHeartbeats 4000000 in
set_option maxRecDepth 100000 in
theorem b_X5_about_76 {p : Program} {l : Launch} {e : Env} {s : State} {m : MethodId} {args : Array Value} {below : List Frame} {meth : Method} {c : Code} {D : va_G} {T : Nat → ClassId} {b : Nat} (hC : CX p s m args meth c cX5_about 3 RX5 (some .int) D T) (a0 : Nat) (x1 : Int32) (h0 : kd a0 = 5) (M : Me) : GN p l e (k2_rm 2 46) s m args below meth c D T b 3 eI 76 [(0, .ref (b + a0)), (1, .int x1)] [] M (j_X5_about_76 a0 x1 M) := by
  unfold j_X5_about_76
  refine n_aload_n hC 0 rfl dX5_about_76 ?_
  refine n_get hC clX5 h0 3 (.ref (b + (rf a0 3))) (by decide) rfl fl_X5_72 rfl dX5_about_77 ?_
  refine n_iload_n hC 1 rfl dX5_about_80 ?_
  refine n_iald hC (kf_X5_3 h0) dX5_about_81 (fun g4 => ?_)
  exact n_iret hC dX5_about_82
def j_X5_about_83 (a0 : Nat) (x1 : Int32) (M : Me) : Option (Int32 × Me) := chk x1 (ln (rf a0 6)) (some ((M.1 (rf a0 6) x1.toNatClampNeg), M))
set_option maxHeartbeats 4000000 in
set_option maxRecDepth 100000 in
theorem b_X5_about_83 {p : Program} {l : Launch} {e : Env} {s : State} {m : MethodId} {args : Array Value} {below : List Frame} {meth : Method} {c : Code} {D : va_G} {T : Nat → ClassId} {b : Nat} (hC : CX p s m args meth c cX5_about 3 RX5 (some .int) D T) (a0 : Nat) (x1 : Int32) (h0 : kd a0 = 5) (M : Me) : GN p l e (k2_rm 2 46) s m args below meth c D T b 3 eI 83 [(0, .ref (b + a0)), (1, .int x1)] [] M (j_X5_about_83 a0 x1 M) := by
  unfold j_X5_about_83
  refine n_aload_n hC 0 rfl dX5_about_83 ?_
  refine n_get hC clX5 h0 6 (.ref (b + (rf a0 6))) (by decide) rfl fl_X5_23 rfl dX5_about_84 ?_
  refine n_iload_n hC 1 rfl dX5_about_87 ?_
  refine n_iald hC (kf_X5_6 h0) dX5_about_88 (fun g5 => ?_)
  exact n_iret hC dX5_about_89
def j_X5_about_90 (a0 : Nat) (x1 : Int32) (M : Me) : Option (Int32 × Me) := chk x1 (ln (rf a0 4)) (if (M.1 (rf a0 4) x1.toNatClampNeg) = (1 : Int32) then some ((8 : Int32), M) else some ((0 : Int32), M))
set_option maxHeartbeats 4000000 in
set_option maxRecDepth 100000 in
theorem b_X5_about_90 {p : Program} {l : Launch} {e : Env} {s : State} {m : MethodId} {args : Array Value} {below : List Frame} {meth : Method} {c : Code} {D : va_G} {T : Nat → ClassId} {b : Nat} (hC : CX p s m args meth c cX5_about 3 RX5 (some .int) D T) (a0 : Nat) (x1 : Int32) (h0 : kd a0 = 5) (M : Me) : GN p l e (k2_rm 2 46) s m args below meth c D T b 3 eI 90 [(0, .ref (b + a0)), (1, .int x1)] [] M (j_X5_about_90 a0 x1 M) := by
  unfold j_X5_about_90
  refine n_aload_n hC 0 rfl dX5_about_90 ?_
  refine n_get hC clX5 h0 4 (.ref (b + (rf a0 4))) (by decide) rfl fl_X5_75 rfl dX5_about_91 ?_
  refine n_iload_n hC 1 rfl dX5_about_94 ?_
  refine n_iald hC (kf_X5_4 h0) dX5_about_95 (fun g6 => ?_)
  refine n_iconst hC (1 : Int32) (by decide) dX5_about_96 ?_
  refine n_icmp_ne hC 105 dX5_about_97 (by decide) ?_ ?_
  · refine n_iconst hC (0 : Int32) (by decide) dX5_about_105 ?_
    exact n_iret hC dX5_about_106
  refine n_bipush hC (8 : Int32) (by decide) dX5_about_100 ?_
  refine n_goto hC (tgt := 106) (by decide) dX5_about_102 ?_
  exact n_iret hC dX5_about_106
def j_X5_about_107 (a0 : Nat) (x1 : Int32) (M : Me) : Option (Int32 × Me) := chk x1 (ln (rf a0 3)) (if (M.1 (rf a0 3) x1.toNatClampNeg) = (1 : Int32) then some ((8 : Int32), M) else some ((0 : Int32), M))
set_option maxHeartbeats 4000000 in
set_option maxRecDepth 100000 in
theorem b_X5_about_107 {p : Program} {l : Launch} {e : Env} {s : State} {m : MethodId} {args : Array Value} {below : List Frame} {meth : Method} {c : Code} {D : va_G} {T : Nat → ClassId} {b : Nat} (hC : CX p s m args meth c cX5_about 3 RX5 (some .int) D T) (a0 : Nat) (x1 : Int32) (h0 : kd a0 = 5) (M : Me) : GN p l e (k2_rm 2 46) s m args below meth c D T b 3 eI 107 [(0, .ref (b + a0)), (1, .int x1)] [] M (j_X5_about_107 a0 x1 M) := by
  unfold j_X5_about_107
  refine n_aload_n hC 0 rfl dX5_about_107 ?_
  refine n_get hC clX5 h0 3 (.ref (b + (rf a0 3))) (by decide) rfl fl_X5_72 rfl dX5_about_108 ?_
  refine n_iload_n hC 1 rfl dX5_about_111 ?_
  refine n_iald hC (kf_X5_3 h0) dX5_about_112 (fun g7 => ?_)
  refine n_iconst hC (1 : Int32) (by decide) dX5_about_113 ?_
  refine n_icmp_ne hC 122 dX5_about_114 (by decide) ?_ ?_
  · refine n_iconst hC (0 : Int32) (by decide) dX5_about_122 ?_
    exact n_iret hC dX5_about_123
  refine n_bipush hC (8 : Int32) (by decide) dX5_about_117 ?_
  refine n_goto hC (tgt := 123) (by decide) dX5_about_119 ?_
  exact n_iret hC dX5_about_123
def j_X5_about_124 (a0 : Nat) (x1 : Int32) (M : Me) : Option (Int32 × Me) := chk x1 (ln (rf a0 7)) (some ((M.1 (rf a0 7) x1.toNatClampNeg), M))
set_option maxHeartbeats 4000000 in
set_option maxRecDepth 100000 in
theorem b_X5_about_124 {p : Program} {l : Launch} {e : Env} {s : State} {m : MethodId} {args : Array Value} {below : List Frame} {meth : Method} {c : Code} {D : va_G} {T : Nat → ClassId} {b : Nat} (hC : CX p s m args meth c cX5_about 3 RX5 (some .int) D T) (a0 : Nat) (x1 : Int32) (h0 : kd a0 = 5) (M : Me) : GN p l e (k2_rm 2 46) s m args below meth c D T b 3 eI 124 [(0, .ref (b + a0)), (1, .int x1)] [] M (j_X5_about_124 a0 x1 M) := by
  unfold j_X5_about_124
  refine n_aload_n hC 0 rfl dX5_about_124 ?_
  refine n_get hC clX5 h0 7 (.ref (b + (rf a0 7))) (by decide) rfl fl_X5_27 rfl dX5_about_125 ?_
  refine n_iload_n hC 1 rfl dX5_about_128 ?_
  refine n_iald hC (kf_X5_7 h0) dX5_about_129 (fun g8 => ?_)
  exact n_iret hC dX5_about_130
def j_X5_about_131 (a0 : Nat) (x1 : Int32) (M : Me) : Option (Int32 × Me) := chk x1 (ln (rf a0 8)) (some ((M.1 (rf a0 8) x1.toNatClampNeg), M))
set_option maxHeartbeats 4000000 in
set_option maxRecDepth 100000 in
theorem b_X5_about_131 {p : Program} {l : Launch} {e : Env} {s : State} {m : MethodId} {args : Array Value} {below : List Frame} {meth : Method} {c : Code} {D : va_G} {T : Nat → ClassId} {b : Nat} (hC : CX p s m args meth c cX5_about 3 RX5 (some .int) D T) (a0 : Nat) (x1 : Int32) (h0 : kd a0 = 5) (M : Me) : GN p l e (k2_rm 2 46) s m args below meth c D T b 3 eI 131 [(0, .ref (b + a0)), (1, .int x1)] [] M (j_X5_about_131 a0 x1 M) := by
  unfold j_X5_about_131
  refine n_aload_n hC 0 rfl dX5_about_131 ?_
  refine n_get hC clX5 h0 8 (.ref (b + (rf a0 8))) (by decide) rfl fl_X5_30 rfl dX5_about_132 ?_
  refine n_iload_n hC 1 rfl dX5_about_135 ?_
  refine n_iald hC (kf_X5_8 h0) dX5_about_136 (fun g9 => ?_)
  exact n_iret hC dX5_about_137
def j_X5_about_138 (a0 : Nat) (x1 : Int32) (M : Me) : Option (Int32 × Me) := chk x1 (ln (rf a0 9)) (some ((M.1 (rf a0 9) x1.toNatClampNeg), M))
set_option maxHeartbeats 4000000 in
set_option maxRecDepth 100000 in
theorem b_X5_about_138 {p : Program} {l : Launch} {e : Env} {s : State} {m : MethodId} {args : Array Value} {below : List Frame} {meth : Method} {c : Code} {D : va_G} {T : Nat → ClassId} {b : Nat} (hC : CX p s m args meth c cX5_about 3 RX5 (some .int) D T) (a0 : Nat) (x1 : Int32) (h0 : kd a0 = 5) (M : Me) : GN p l e (k2_rm 2 46) s m args below meth c D T b 3 eI 138 [(0, .ref (b + a0)), (1, .int x1)] [] M (j_X5_about_138 a0 x1 M) := by
  unfold j_X5_about_138
  refine n_aload_n hC 0 rfl dX5_about_138 ?_
  refine n_get hC clX5 h0 9 (.ref (b + (rf a0 9))) (by decide) rfl fl_X5_33 rfl dX5_about_139 ?_
  refine n_iload_n hC 1 rfl dX5_about_142 ?_
  refine n_iald hC (kf_X5_9 h0) dX5_about_143 (fun g10 => ?_)
  exact n_iret hC dX5_about_144
def j_X5_about_145 (a0 : Nat) (x1 : Int32) (M : Me) : Option (Int32 × Me) := chk x1 (ln (rf a0 10)) (some ((M.1 (rf a0 10) x1.toNatClampNeg), M))
set_option maxHeartbeats 4000000 in
set_option maxRecDepth 100000 in
theorem b_X5_about_145 {p : Program} {l : Launch} {e : Env} {s : State} {m : MethodId} {args : Array Value} {below : List Frame} {meth : Method} {c : Code} {D : va_G} {T : Nat → ClassId} {b : Nat} (hC : CX p s m args meth c cX5_about 3 RX5 (some .int) D T) (a0 : Nat) (x1 : Int32) (h0 : kd a0 = 5) (M : Me) : GN p l e (k2_rm 2 46) s m args below meth c D T b 3 eI 145 [(0, .ref (b + a0)), (1, .int x1)] [] M (j_X5_about_145 a0 x1 M) := by
  unfold j_X5_about_145
  refine n_aload_n hC 0 rfl dX5_about_145 ?_
  refine n_get hC clX5 h0 10 (.ref (b + (rf a0 10))) (by decide) rfl fl_X5_36 rfl dX5_about_146 ?_
  refine n_iload_n hC 1 rfl dX5_about_149 ?_
  refine n_iald hC (kf_X5_10 h0) dX5_about_150 (fun g11 => ?_)
  exact n_iret hC dX5_about_151
def j_X5_about_152 (a0 : Nat) (x1 : Int32) (M : Me) : Option (Int32 × Me) := chk x1 (ln (rf a0 4)) (if (M.1 (rf a0 4) x1.toNatClampNeg) = (2 : Int32) then some ((1 : Int32), M) else some ((0 : Int32), M))
set_option maxHeartbeats 4000000 in
set_option maxRecDepth 100000 in
theorem b_X5_about_152 {p : Program} {l : Launch} {e : Env} {s : State} {m : MethodId} {args : Array Value} {below : List Frame} {meth : Method} {c : Code} {D : va_G} {T : Nat → ClassId} {b : Nat} (hC : CX p s m args meth c cX5_about 3 RX5 (some .int) D T) (a0 : Nat) (x1 : Int32) (h0 : kd a0 = 5) (M : Me) : GN p l e (k2_rm 2 46) s m args below meth c D T b 3 eI 152 [(0, .ref (b + a0)), (1, .int x1)] [] M (j_X5_about_152 a0 x1 M) := by
  unfold j_X5_about_152
  refine n_aload_n hC 0 rfl dX5_about_152 ?_
  refine n_get hC clX5 h0 4 (.ref (b + (rf a0 4))) (by decide) rfl fl_X5_75 rfl dX5_about_153 ?_
  refine n_iload_n hC 1 rfl dX5_about_156 ?_
  refine n_iald hC (kf_X5_4 h0) dX5_about_157 (fun g12 => ?_)
  refine n_iconst hC (2 : Int32) (by decide) dX5_about_158 ?_
  refine n_icmp_ne hC 166 dX5_about_159 (by decide) ?_ ?_
  · refine n_iconst hC (0 : Int32) (by decide) dX5_about_166 ?_
    exact n_iret hC dX5_about_167
  refine n_iconst hC (1 : Int32) (by decide) dX5_about_162 ?_
  refine n_goto hC (tgt := 167) (by decide) dX5_about_163 ?_
  exact n_iret hC dX5_about_167
def j_X5_about_168 (a0 : Nat) (x1 : Int32) (M : Me) : Option (Int32 × Me) := chk x1 (ln (rf a0 20)) (some ((M.1 (rf a0 20) x1.toNatClampNeg), M))
set_option maxHeartbeats 4000000 in
set_option maxRecDepth 100000 in
theorem b_X5_about_168 {p : Program} {l : Launch} {e : Env} {s : State} {m : MethodId} {args : Array Value} {below : List Frame} {meth : Method} {c : Code} {D : va_G} {T : Nat → ClassId} {b : Nat} (hC : CX p s m args meth c cX5_about 3 RX5 (some .int) D T) (a0 : Nat) (x1 : Int32) (h0 : kd a0 = 5) (M : Me) : GN p l e (k2_rm 2 46) s m args below meth c D T b 3 eI 168 [(0, .ref (b + a0)), (1, .int x1)] [] M (j_X5_about_168 a0 x1 M) := by
  unfold j_X5_about_168
  refine n_aload_n hC 0 rfl dX5_about_168 ?_
  refine n_get hC clX5 h0 20 (.ref (b + (rf a0 20))) (by decide) rfl fl_X5_55 rfl dX5_about_169 ?_
  refine n_iload_n hC 1 rfl dX5_about_172 ?_
  refine n_iald hC (kf_X5_20 h0) dX5_about_173 (fun g13 => ?_)
  exact n_iret hC dX5_about_174
def j_X5_about_175 (a0 : Nat) (x1 : Int32) (M : Me) : Option (Int32 × Me) := chk x1 (ln (rf a0 14)) (if (M.1 (rf a0 14) x1.toNatClampNeg) = (0 : Int32) then some ((1 : Int32), M) else some ((0 : Int32), M))
set_option maxHeartbeats 4000000 in
set_option maxRecDepth 100000 in
theorem b_X5_about_175 {p : Program} {l : Launch} {e : Env} {s : State} {m : MethodId} {args : Array Value} {below : List Frame} {meth : Method} {c : Code} {D : va_G} {T : Nat → ClassId} {b : Nat} (hC : CX p s m args meth c cX5_about 3 RX5 (some .int) D T) (a0 : Nat) (x1 : Int32) (h0 : kd a0 = 5) (M : Me) : GN p l e (k2_rm 2 46) s m args below meth c D T b 3 eI 175 [(0, .ref (b + a0)), (1, .int x1)] [] M (j_X5_about_175 a0 x1 M) := by
  unfold j_X5_about_175
  refine n_aload_n hC 0 rfl dX5_about_175 ?_
  refine n_get hC clX5 h0 14 (.ref (b + (rf a0 14))) (by decide) rfl fl_X5_39 rfl dX5_about_176 ?_
  refine n_iload_n hC 1 rfl dX5_about_179 ?_
  refine n_zald hC (kf_X5_14 h0) dX5_about_180 (fun g14 => ?_)
  refine n_if_eq hC 188 dX5_about_181 (by decide) ?_ ?_
  · refine n_iconst hC (1 : Int32) (by decide) dX5_about_188 ?_
    exact n_iret hC dX5_about_189
  refine n_iconst hC (0 : Int32) (by decide) dX5_about_184 ?_
  refine n_goto hC (tgt := 189) (by decide) dX5_about_185 ?_
  exact n_iret hC dX5_about_189
def j_X5_about_190  (M : Me) : Option (Int32 × Me) := some ((-3 : Int32), M)
set_option maxHeartbeats 4000000 in
set_option maxRecDepth 100000 in
theorem b_X5_about_190 {p : Program} {l : Launch} {e : Env} {s : State} {m : MethodId} {args : Array Value} {below : List Frame} {meth : Method} {c : Code} {D : va_G} {T : Nat → ClassId} {b : Nat} (hC : CX p s m args meth c cX5_about 3 RX5 (some .int) D T)  (M : Me) : GN p l e (k2_rm 2 46) s m args below meth c D T b 3 eI 190 [] [] M (j_X5_about_190  M) := by
  unfold j_X5_about_190
  refine n_bipush hC (-3 : Int32) (by decide) dX5_about_190 ?_
  exact n_iret hC dX5_about_192
def f_X5_about (M : Me) (a0 : Nat) (x1 : Int32) (x2 : Int32) : Option (Int32 × Me) := bnd (sI M a0 0 (0 : Int32)) (fun M1 => cal (f_X5_isEntry M1 a0 x1) (fun r2 M3 => if r2 = (0 : Int32) then some ((-2 : Int32), M3) else tsw x2 11 (fun i => match i with | 0 => j_X5_about_76 a0 x1 M3 | 1 => j_X5_about_83 a0 x1 M3 | 2 => j_X5_about_90 a0 x1 M3 | 3 => j_X5_about_107 a0 x1 M3 | 4 => j_X5_about_124 a0 x1 M3 | 5 => j_X5_about_131 a0 x1 M3 | 6 => j_X5_about_138 a0 x1 M3 | 7 => j_X5_about_145 a0 x1 M3 | 8 => j_X5_about_152 a0 x1 M3 | 9 => j_X5_about_168 a0 x1 M3 | 10 => j_X5_about_175 a0 x1 M3 | _ => none) (j_X5_about_190 M3)))
set_option maxHeartbeats 4000000 in
set_option maxRecDepth 100000 in
theorem c_X5_about (l : Launch) (M : Me) (a0 : Nat) (x1 : Int32) (x2 : Int32) (h0 : kd a0 = 5) : CN l yX5_about cX5_about 3 (some .int) (k2_rm 2 46) eI (fun b => [.ref (b + a0), .int x1, .int x2]) M (f_X5_about M a0 x1 x2) := by
  refine CN.of RX5 (fun b => [(0, .ref (b + a0)), (1, .int x1), (2, .int x2)]) (by decide) rfl (fun b => Nat.le_of_ble_eq_true rfl) (fun b => rfl) ?_
  intro p e s m args below meth c D T b hC
  unfold f_X5_about
  refine n_aload_n hC 0 rfl dX5_about_0 ?_
  refine n_iconst hC (0 : Int32) (by decide) dX5_about_1 ?_
  refine n_putI hC clX5 h0 0 (by decide) rfl rfl rfl fl_X5_1 dX5_about_2 (fun M1 => ?_)
  refine n_aload_n hC 0 rfl dX5_about_5 ?_
  refine n_iload_n hC 1 rfl dX5_about_6 ?_
  refine n_callVi (As := [.int x1]) (rest := []) h0 rfl (by decide) hC (c_X5_isEntry l M1 a0 x1 h0) my_X5_isEntry ml_X5_81 rfl rfl rfl (Nat.le_of_ble_eq_true rfl) ⟨by decide, by decide⟩ dX5_about_7 (fun r2 M3 => ?_)
  refine n_if_ne hC 16 dX5_about_10 (by decide) ?_ ?_
  · refine n_iload_n hC 2 rfl dX5_about_16 ?_
    refine n_tsw (n := 11) hC (fun i => match i with | 0 => 76 | 1 => 83 | 2 => 90 | 3 => 107 | 4 => 124 | 5 => 131 | 6 => 138 | 7 => 145 | 8 => 152 | 9 => 168 | 10 => 175 | _ => 190) 190 dX5_about_17 (by decide) (by decide) ?_ ?_ ?_
    · intro i hi
      match i, hi with
      | 0, _ => exact ⟨59, rfl, by decide⟩
      | 1, _ => exact ⟨66, rfl, by decide⟩
      | 2, _ => exact ⟨73, rfl, by decide⟩
      | 3, _ => exact ⟨90, rfl, by decide⟩
      | 4, _ => exact ⟨107, rfl, by decide⟩
      | 5, _ => exact ⟨114, rfl, by decide⟩
      | 6, _ => exact ⟨121, rfl, by decide⟩
      | 7, _ => exact ⟨128, rfl, by decide⟩
      | 8, _ => exact ⟨135, rfl, by decide⟩
      | 9, _ => exact ⟨151, rfl, by decide⟩
      | 10, _ => exact ⟨158, rfl, by decide⟩
      | i + 11, h => exact absurd h (by omega)
    · intro i hi
      match i, hi with
      | 0, _ => exact GN.sub [0, 1] rfl (b_X5_about_76 hC a0 x1 h0 M3)
      | 1, _ => exact GN.sub [0, 1] rfl (b_X5_about_83 hC a0 x1 h0 M3)
      | 2, _ => exact GN.sub [0, 1] rfl (b_X5_about_90 hC a0 x1 h0 M3)
      | 3, _ => exact GN.sub [0, 1] rfl (b_X5_about_107 hC a0 x1 h0 M3)
      | 4, _ => exact GN.sub [0, 1] rfl (b_X5_about_124 hC a0 x1 h0 M3)
      | 5, _ => exact GN.sub [0, 1] rfl (b_X5_about_131 hC a0 x1 h0 M3)
      | 6, _ => exact GN.sub [0, 1] rfl (b_X5_about_138 hC a0 x1 h0 M3)
      | 7, _ => exact GN.sub [0, 1] rfl (b_X5_about_145 hC a0 x1 h0 M3)
      | 8, _ => exact GN.sub [0, 1] rfl (b_X5_about_152 hC a0 x1 h0 M3)
      | 9, _ => exact GN.sub [0, 1] rfl (b_X5_about_168 hC a0 x1 h0 M3)
      | 10, _ => exact GN.sub [0, 1] rfl (b_X5_about_175 hC a0 x1 h0 M3)
      | i + 11, h => exact absurd h (by omega)
    exact GN.sub [] rfl (b_X5_about_190 hC  M3)
  refine n_bipush hC (-2 : Int32) (by decide) dX5_about_13 ?_
  exact n_iret hC dX5_about_15
def f_X5_letter (M : Me) (a0 : Nat) (x1 : Int32) (x2 : Int32) : Option (Int32 × Me) := bnd (sI M a0 0 (0 : Int32)) (fun M1 => cal (f_X5_isEntry M1 a0 x1) (fun r2 M3 => if r2 = (0 : Int32) then some ((-2 : Int32), M3) else chk x1 (ln (rf a0 6)) (cal (f_X5_in M3 x2.toInt64 (0 : Int64) ((((M3.1 (rf a0 6) x1.toNatClampNeg) - (1 : Int32))).toInt64)) (fun r5 M6 => if r5 = (0 : Int32) then cal (f_X5_fails M6 a0 (3 : Int32)) (fun r7 M8 => some (r7, M8)) else chk (((16 : Int32) * x1) + x2) (ln (rf a0 5)) (some ((M6.1 (rf a0 5) (((16 : Int32) * x1) + x2).toNatClampNeg), M6))))))
set_option maxHeartbeats 4000000 in
set_option maxRecDepth 100000 in
theorem c_X5_letter (l : Launch) (M : Me) (a0 : Nat) (x1 : Int32) (x2 : Int32) (h0 : kd a0 = 5) : CN l yX5_letter cX5_letter 3 (some .int) (k2_rm 2 46) eI (fun b => [.ref (b + a0), .int x1, .int x2]) M (f_X5_letter M a0 x1 x2) := by
  refine CN.of RX5 (fun b => [(0, .ref (b + a0)), (1, .int x1), (2, .int x2)]) (by decide) rfl (fun b => Nat.le_of_ble_eq_true rfl) (fun b => rfl) ?_
  intro p e s m args below meth c D T b hC
  unfold f_X5_letter
  refine n_aload_n hC 0 rfl dX5_letter_0 ?_
  refine n_iconst hC (0 : Int32) (by decide) dX5_letter_1 ?_
  refine n_putI hC clX5 h0 0 (by decide) rfl rfl rfl fl_X5_1 dX5_letter_2 (fun M1 => ?_)
  refine n_aload_n hC 0 rfl dX5_letter_5 ?_
  refine n_iload_n hC 1 rfl dX5_letter_6 ?_
  refine n_callVi (As := [.int x1]) (rest := []) h0 rfl (by decide) hC (c_X5_isEntry l M1 a0 x1 h0) my_X5_isEntry ml_X5_81 rfl rfl rfl (Nat.le_of_ble_eq_true rfl) ⟨by decide, by decide⟩ dX5_letter_7 (fun r2 M3 => ?_)
  refine n_if_ne hC 16 dX5_letter_10 (by decide) ?_ ?_
  · refine n_iload_n hC 2 rfl dX5_letter_16 ?_
    refine n_i2l hC dX5_letter_17 ?_
    refine n_lconst hC (0 : Int64) (by decide) dX5_letter_18 ?_
    refine n_aload_n hC 0 rfl dX5_letter_19 ?_
    refine n_get hC clX5 h0 6 (.ref (b + (rf a0 6))) (by decide) rfl fl_X5_23 rfl dX5_letter_20 ?_
    refine n_iload_n hC 1 rfl dX5_letter_23 ?_
    refine n_iald hC (kf_X5_6 h0) dX5_letter_24 (fun g4 => ?_)
    refine n_iconst hC (1 : Int32) (by decide) dX5_letter_25 ?_
    refine n_isub hC dX5_letter_26 ?_
    refine n_i2l hC dX5_letter_27 ?_
    refine n_callSi (As := [.long x2.toInt64, .long (0 : Int64), .long (((M3.1 (rf a0 6) x1.toNatClampNeg) - (1 : Int32))).toInt64]) (rest := []) hC (c_X5_in l M3 x2.toInt64 (0 : Int64) ((((M3.1 (rf a0 6) x1.toNatClampNeg) - (1 : Int32))).toInt64)) my_X5_in ml_X5_13 rfl rfl rfl (Nat.le_of_ble_eq_true rfl) ⟨by decide, by decide⟩ dX5_letter_28 (fun r5 M6 => ?_)
    refine n_if_eq hC 48 dX5_letter_31 (by decide) ?_ ?_
    · refine n_aload_n hC 0 rfl dX5_letter_48 ?_
      refine n_iconst hC (3 : Int32) (by decide) dX5_letter_49 ?_
      refine n_callVi (As := [.int (3 : Int32)]) (rest := []) h0 rfl (by decide) hC (c_X5_fails l M6 a0 (3 : Int32) h0) my_X5_fails ml_X5_85 rfl rfl rfl (Nat.le_of_ble_eq_true rfl) ⟨by decide, by decide⟩ dX5_letter_50 (fun r7 M8 => ?_)
      exact n_iret hC dX5_letter_53
    refine n_aload_n hC 0 rfl dX5_letter_34 ?_
    refine n_get hC clX5 h0 5 (.ref (b + (rf a0 5))) (by decide) rfl fl_X5_78 rfl dX5_letter_35 ?_
    refine n_bipush hC (16 : Int32) (by decide) dX5_letter_38 ?_
    refine n_iload_n hC 1 rfl dX5_letter_40 ?_
    refine n_imul hC dX5_letter_41 ?_
    refine n_iload_n hC 2 rfl dX5_letter_42 ?_
    refine n_iadd hC dX5_letter_43 ?_
    refine n_iald hC (kf_X5_5 h0) dX5_letter_44 (fun g9 => ?_)
    refine n_goto hC (tgt := 53) (by decide) dX5_letter_45 ?_
    exact n_iret hC dX5_letter_53
  refine n_bipush hC (-2 : Int32) (by decide) dX5_letter_13 ?_
  exact n_iret hC dX5_letter_15
def j_X5_octet_51 (s0 : Int32) (s1 : Nat) (M : Me) : Option (Int32 × Me) := cal (f_X5_fails M s1 s0) (fun r6 M7 => some (r6, M7))
set_option maxHeartbeats 4000000 in
set_option maxRecDepth 100000 in
theorem b_X5_octet_51 {p : Program} {l : Launch} {e : Env} {s : State} {m : MethodId} {args : Array Value} {below : List Frame} {meth : Method} {c : Code} {D : va_G} {T : Nat → ClassId} {b : Nat} (hC : CX p s m args meth c cX5_octet 3 RX5 (some .int) D T) (s0 : Int32) (s1 : Nat) (hs1 : kd s1 = 5) (M : Me) : GN p l e (k2_rm 2 46) s m args below meth c D T b 3 eI 51 [] [.int s0, .ref (b + s1)] M (j_X5_octet_51 s0 s1 M) := by
  unfold j_X5_octet_51
  refine n_callVi (As := [.int s0]) (rest := []) hs1 rfl (by decide) hC (c_X5_fails l M s1 s0 hs1) my_X5_fails ml_X5_85 rfl rfl rfl (Nat.le_of_ble_eq_true rfl) ⟨by decide, by decide⟩ dX5_octet_51 (fun r6 M7 => ?_)
  exact n_iret hC dX5_octet_54
def j_X5_octet_35 (a0 : Nat) (x1 : Int32) (M : Me) : Option (Int32 × Me) := chk x1 (ln (rf a0 3)) (if (M.1 (rf a0 3) x1.toNatClampNeg) = (2 : Int32) then j_X5_octet_51 (2 : Int32) a0 M else j_X5_octet_51 (1 : Int32) a0 M)
set_option maxHeartbeats 4000000 in
set_option maxRecDepth 100000 in
theorem b_X5_octet_35 {p : Program} {l : Launch} {e : Env} {s : State} {m : MethodId} {args : Array Value} {below : List Frame} {meth : Method} {c : Code} {D : va_G} {T : Nat → ClassId} {b : Nat} (hC : CX p s m args meth c cX5_octet 3 RX5 (some .int) D T) (a0 : Nat) (x1 : Int32) (h0 : kd a0 = 5) (M : Me) : GN p l e (k2_rm 2 46) s m args below meth c D T b 3 eI 35 [(0, .ref (b + a0)), (1, .int x1)] [] M (j_X5_octet_35 a0 x1 M) := by
  unfold j_X5_octet_35
  refine n_aload_n hC 0 rfl dX5_octet_35 ?_
  refine n_aload_n hC 0 rfl dX5_octet_36 ?_
  refine n_get hC clX5 h0 3 (.ref (b + (rf a0 3))) (by decide) rfl fl_X5_72 rfl dX5_octet_37 ?_
  refine n_iload_n hC 1 rfl dX5_octet_40 ?_
  refine n_iald hC (kf_X5_3 h0) dX5_octet_41 (fun g5 => ?_)
  refine n_iconst hC (2 : Int32) (by decide) dX5_octet_42 ?_
  refine n_icmp_ne hC 50 dX5_octet_43 (by decide) ?_ ?_
  · refine n_iconst hC (1 : Int32) (by decide) dX5_octet_50 ?_
    exact GN.sub [] rfl (b_X5_octet_51 hC (1 : Int32) a0 h0 M)
  refine n_iconst hC (2 : Int32) (by decide) dX5_octet_46 ?_
  refine n_goto hC (tgt := 51) (by decide) dX5_octet_47 ?_
  exact GN.sub [] rfl (b_X5_octet_51 hC (2 : Int32) a0 h0 M)
def f_X5_octet (M : Me) (a0 : Nat) (x1 : Int32) (x2 : Int32) : Option (Int32 × Me) := bnd (sI M a0 0 (0 : Int32)) (fun M1 => cal (f_X5_isEntry M1 a0 x1) (fun r2 M3 => if r2 = (0 : Int32) then some ((-2 : Int32), M3) else chk x1 (ln (rf a0 3)) (if (M3.1 (rf a0 3) x1.toNatClampNeg) = (2 : Int32) then j_X5_octet_35 a0 x1 M3 else chk x1 (ln (rf a0 14)) (if (M3.1 (rf a0 14) x1.toNatClampNeg) = (0 : Int32) then j_X5_octet_35 a0 x1 M3 else chk x1 (ln (rf a0 15)) (cal (f_X5_in M3 x2.toInt64 (0 : Int64) ((((M3.1 (rf a0 15) x1.toNatClampNeg) - (1 : Int32))).toInt64)) (fun r10 M11 => if r10 = (0 : Int32) then cal (f_X5_fails M11 a0 (3 : Int32)) (fun r12 M13 => some (r12, M13)) else chk (((40 : Int32) * x1) + x2) (ln (rf a0 16)) (some ((M11.1 (rf a0 16) (((40 : Int32) * x1) + x2).toNatClampNeg), M11))))))))
set_option maxHeartbeats 4000000 in
set_option maxRecDepth 100000 in
theorem c_X5_octet (l : Launch) (M : Me) (a0 : Nat) (x1 : Int32) (x2 : Int32) (h0 : kd a0 = 5) : CN l yX5_octet cX5_octet 3 (some .int) (k2_rm 2 46) eI (fun b => [.ref (b + a0), .int x1, .int x2]) M (f_X5_octet M a0 x1 x2) := by
  refine CN.of RX5 (fun b => [(0, .ref (b + a0)), (1, .int x1), (2, .int x2)]) (by decide) rfl (fun b => Nat.le_of_ble_eq_true rfl) (fun b => rfl) ?_
  intro p e s m args below meth c D T b hC
  unfold f_X5_octet
  refine n_aload_n hC 0 rfl dX5_octet_0 ?_
  refine n_iconst hC (0 : Int32) (by decide) dX5_octet_1 ?_
  refine n_putI hC clX5 h0 0 (by decide) rfl rfl rfl fl_X5_1 dX5_octet_2 (fun M1 => ?_)
  refine n_aload_n hC 0 rfl dX5_octet_5 ?_
  refine n_iload_n hC 1 rfl dX5_octet_6 ?_
  refine n_callVi (As := [.int x1]) (rest := []) h0 rfl (by decide) hC (c_X5_isEntry l M1 a0 x1 h0) my_X5_isEntry ml_X5_81 rfl rfl rfl (Nat.le_of_ble_eq_true rfl) ⟨by decide, by decide⟩ dX5_octet_7 (fun r2 M3 => ?_)
  refine n_if_ne hC 16 dX5_octet_10 (by decide) ?_ ?_
  · refine n_aload_n hC 0 rfl dX5_octet_16 ?_
    refine n_get hC clX5 h0 3 (.ref (b + (rf a0 3))) (by decide) rfl fl_X5_72 rfl dX5_octet_17 ?_
    refine n_iload_n hC 1 rfl dX5_octet_20 ?_
    refine n_iald hC (kf_X5_3 h0) dX5_octet_21 (fun g4 => ?_)
    refine n_iconst hC (2 : Int32) (by decide) dX5_octet_22 ?_
    refine n_icmp_eq hC 35 dX5_octet_23 (by decide) ?_ ?_
    · exact GN.sub [0, 1] rfl (b_X5_octet_35 hC a0 x1 h0 M3)
    refine n_aload_n hC 0 rfl dX5_octet_26 ?_
    refine n_get hC clX5 h0 14 (.ref (b + (rf a0 14))) (by decide) rfl fl_X5_39 rfl dX5_octet_27 ?_
    refine n_iload_n hC 1 rfl dX5_octet_30 ?_
    refine n_zald hC (kf_X5_14 h0) dX5_octet_31 (fun g8 => ?_)
    refine n_if_ne hC 55 dX5_octet_32 (by decide) ?_ ?_
    · refine n_iload_n hC 2 rfl dX5_octet_55 ?_
      refine n_i2l hC dX5_octet_56 ?_
      refine n_lconst hC (0 : Int64) (by decide) dX5_octet_57 ?_
      refine n_aload_n hC 0 rfl dX5_octet_58 ?_
      refine n_get hC clX5 h0 15 (.ref (b + (rf a0 15))) (by decide) rfl fl_X5_43 rfl dX5_octet_59 ?_
      refine n_iload_n hC 1 rfl dX5_octet_62 ?_
      refine n_iald hC (kf_X5_15 h0) dX5_octet_63 (fun g9 => ?_)
      refine n_iconst hC (1 : Int32) (by decide) dX5_octet_64 ?_
      refine n_isub hC dX5_octet_65 ?_
      refine n_i2l hC dX5_octet_66 ?_
      refine n_callSi (As := [.long x2.toInt64, .long (0 : Int64), .long (((M3.1 (rf a0 15) x1.toNatClampNeg) - (1 : Int32))).toInt64]) (rest := []) hC (c_X5_in l M3 x2.toInt64 (0 : Int64) ((((M3.1 (rf a0 15) x1.toNatClampNeg) - (1 : Int32))).toInt64)) my_X5_in ml_X5_13 rfl rfl rfl (Nat.le_of_ble_eq_true rfl) ⟨by decide, by decide⟩ dX5_octet_67 (fun r10 M11 => ?_)
      refine n_if_eq hC 87 dX5_octet_70 (by decide) ?_ ?_
      · refine n_aload_n hC 0 rfl dX5_octet_87 ?_
        refine n_iconst hC (3 : Int32) (by decide) dX5_octet_88 ?_
        refine n_callVi (As := [.int (3 : Int32)]) (rest := []) h0 rfl (by decide) hC (c_X5_fails l M11 a0 (3 : Int32) h0) my_X5_fails ml_X5_85 rfl rfl rfl (Nat.le_of_ble_eq_true rfl) ⟨by decide, by decide⟩ dX5_octet_89 (fun r12 M13 => ?_)
        exact n_iret hC dX5_octet_92
      refine n_aload_n hC 0 rfl dX5_octet_73 ?_
      refine n_get hC clX5 h0 16 (.ref (b + (rf a0 16))) (by decide) rfl fl_X5_89 rfl dX5_octet_74 ?_
      refine n_bipush hC (40 : Int32) (by decide) dX5_octet_77 ?_
      refine n_iload_n hC 1 rfl dX5_octet_79 ?_
      refine n_imul hC dX5_octet_80 ?_
      refine n_iload_n hC 2 rfl dX5_octet_81 ?_
      refine n_iadd hC dX5_octet_82 ?_
      refine n_iald hC (kf_X5_16 h0) dX5_octet_83 (fun g14 => ?_)
      refine n_goto hC (tgt := 92) (by decide) dX5_octet_84 ?_
      exact n_iret hC dX5_octet_92
    exact GN.sub [0, 1] rfl (b_X5_octet_35 hC a0 x1 h0 M3)
  refine n_bipush hC (-2 : Int32) (by decide) dX5_octet_13 ?_
  exact n_iret hC dX5_octet_15
def j_X5_size_80 (a0 : Nat) (x1 : Int32) (x2 : Int32) (M : Me) : Option (Int64 × Me) := if x2 = (0 : Int32) then chk x1 (ln (rf a0 15)) (some (((M.1 (rf a0 15) x1.toNatClampNeg)).toInt64, M)) else if x2 = (1 : Int32) then cal (f_X5_trueSize M a0 x1) (fun r10 M11 => some (r10.toInt64, M11)) else cal (f_X5_sum M a0 x1) (fun r8 M9 => some ((r8.toInt64 &&& (4294967295 : Int64)), M9))
set_option maxHeartbeats 4000000 in
set_option maxRecDepth 100000 in
theorem b_X5_size_80 {p : Program} {l : Launch} {e : Env} {s : State} {m : MethodId} {args : Array Value} {below : List Frame} {meth : Method} {c : Code} {D : va_G} {T : Nat → ClassId} {b : Nat} (hC : CX p s m args meth c cX5_size 3 RX5 (some .long) D T) (a0 : Nat) (x1 : Int32) (x2 : Int32) (h0 : kd a0 = 5) (M : Me) : GN p l e (k2_rm 2 46) s m args below meth c D T b 3 eL 80 [(0, .ref (b + a0)), (1, .int x1), (2, .int x2)] [] M (j_X5_size_80 a0 x1 x2 M) := by
  unfold j_X5_size_80
  refine n_iload_n hC 2 rfl dX5_size_80 ?_
  refine n_if_ne hC 94 dX5_size_81 (by decide) ?_ ?_
  · refine n_iload_n hC 2 rfl dX5_size_94 ?_
    refine n_iconst hC (1 : Int32) (by decide) dX5_size_95 ?_
    refine n_icmp_ne hC 108 dX5_size_96 (by decide) ?_ ?_
    · refine n_aload_n hC 0 rfl dX5_size_108 ?_
      refine n_iload_n hC 1 rfl dX5_size_109 ?_
      refine n_callVi (As := [.int x1]) (rest := []) h0 rfl (by decide) hC (c_X5_sum l M a0 x1 h0) my_X5_sum ml_X5_144 rfl rfl rfl (Nat.le_of_ble_eq_true rfl) ⟨by decide, by decide⟩ dX5_size_110 (fun r8 M9 => ?_)
      refine n_i2l hC dX5_size_113 ?_
      refine n_ldc2 hC (4294967295 : Int64) kc_X5_147 dX5_size_114 ?_
      refine n_land hC dX5_size_117 ?_
      exact n_lret hC dX5_size_118
    refine n_aload_n hC 0 rfl dX5_size_99 ?_
    refine n_iload_n hC 1 rfl dX5_size_100 ?_
    refine n_callVi (As := [.int x1]) (rest := []) h0 rfl (by decide) hC (c_X5_trueSize l M a0 x1 h0) my_X5_trueSize ml_X5_137 rfl rfl rfl (Nat.le_of_ble_eq_true rfl) ⟨by decide, by decide⟩ dX5_size_101 (fun r10 M11 => ?_)
    refine n_i2l hC dX5_size_104 ?_
    refine n_goto hC (tgt := 118) (by decide) dX5_size_105 ?_
    exact n_lret hC dX5_size_118
  refine n_aload_n hC 0 rfl dX5_size_84 ?_
  refine n_get hC clX5 h0 15 (.ref (b + (rf a0 15))) (by decide) rfl fl_X5_43 rfl dX5_size_85 ?_
  refine n_iload_n hC 1 rfl dX5_size_88 ?_
  refine n_iald hC (kf_X5_15 h0) dX5_size_89 (fun g12 => ?_)
  refine n_i2l hC dX5_size_90 ?_
  refine n_goto hC (tgt := 118) (by decide) dX5_size_91 ?_
  exact n_lret hC dX5_size_118
def j_X5_size_73 (a0 : Nat) (M : Me) : Option (Int64 × Me) := cal (f_X5_fails M a0 (1 : Int32)) (fun r13 M14 => some (r13.toInt64, M14))
set_option maxHeartbeats 4000000 in
set_option maxRecDepth 100000 in
theorem b_X5_size_73 {p : Program} {l : Launch} {e : Env} {s : State} {m : MethodId} {args : Array Value} {below : List Frame} {meth : Method} {c : Code} {D : va_G} {T : Nat → ClassId} {b : Nat} (hC : CX p s m args meth c cX5_size 3 RX5 (some .long) D T) (a0 : Nat) (h0 : kd a0 = 5) (M : Me) : GN p l e (k2_rm 2 46) s m args below meth c D T b 3 eL 73 [(0, .ref (b + a0))] [] M (j_X5_size_73 a0 M) := by
  unfold j_X5_size_73
  refine n_aload_n hC 0 rfl dX5_size_73 ?_
  refine n_iconst hC (1 : Int32) (by decide) dX5_size_74 ?_
  refine n_callVi (As := [.int (1 : Int32)]) (rest := []) h0 rfl (by decide) hC (c_X5_fails l M a0 (1 : Int32) h0) my_X5_fails ml_X5_85 rfl rfl rfl (Nat.le_of_ble_eq_true rfl) ⟨by decide, by decide⟩ dX5_size_75 (fun r13 M14 => ?_)
  refine n_i2l hC dX5_size_78 ?_
  exact n_lret hC dX5_size_79
def f_X5_size (M : Me) (a0 : Nat) (x1 : Int32) (x2 : Int32) : Option (Int64 × Me) := bnd (sI M a0 0 (0 : Int32)) (fun M1 => cal (f_X5_isEntry M1 a0 x1) (fun r2 M3 => if r2 = (0 : Int32) then some ((-2 : Int64), M3) else cal (f_X5_in M3 x2.toInt64 (0 : Int64) (2 : Int64)) (fun r4 M5 => if r4 = (0 : Int32) then some ((-3 : Int64), M5) else chk x1 (ln (rf a0 3)) (if (M5.1 (rf a0 3) x1.toNatClampNeg) = (2 : Int32) then cal (f_X5_fails M5 a0 (2 : Int32)) (fun r16 M17 => some (r16.toInt64, M17)) else chk x1 (ln (rf a0 14)) (if (M5.1 (rf a0 14) x1.toNatClampNeg) = (0 : Int32) then if x2 = (0 : Int32) then j_X5_size_73 a0 M5 else chk x1 (ln (rf a0 3)) (if (M5.1 (rf a0 3) x1.toNatClampNeg) = (1 : Int32) then j_X5_size_80 a0 x1 x2 M5 else j_X5_size_73 a0 M5) else j_X5_size_80 a0 x1 x2 M5)))))
set_option maxHeartbeats 4000000 in
set_option maxRecDepth 100000 in
theorem c_X5_size (l : Launch) (M : Me) (a0 : Nat) (x1 : Int32) (x2 : Int32) (h0 : kd a0 = 5) : CN l yX5_size cX5_size 3 (some .long) (k2_rm 2 46) eL (fun b => [.ref (b + a0), .int x1, .int x2]) M (f_X5_size M a0 x1 x2) := by
  refine CN.of RX5 (fun b => [(0, .ref (b + a0)), (1, .int x1), (2, .int x2)]) (by decide) rfl (fun b => Nat.le_of_ble_eq_true rfl) (fun b => rfl) ?_
  intro p e s m args below meth c D T b hC
  unfold f_X5_size
  refine n_aload_n hC 0 rfl dX5_size_0 ?_
  refine n_iconst hC (0 : Int32) (by decide) dX5_size_1 ?_
  refine n_putI hC clX5 h0 0 (by decide) rfl rfl rfl fl_X5_1 dX5_size_2 (fun M1 => ?_)
  refine n_aload_n hC 0 rfl dX5_size_5 ?_
  refine n_iload_n hC 1 rfl dX5_size_6 ?_
  refine n_callVi (As := [.int x1]) (rest := []) h0 rfl (by decide) hC (c_X5_isEntry l M1 a0 x1 h0) my_X5_isEntry ml_X5_81 rfl rfl rfl (Nat.le_of_ble_eq_true rfl) ⟨by decide, by decide⟩ dX5_size_7 (fun r2 M3 => ?_)
  refine n_if_ne hC 17 dX5_size_10 (by decide) ?_ ?_
  · refine n_iload_n hC 2 rfl dX5_size_17 ?_
    refine n_i2l hC dX5_size_18 ?_
    refine n_lconst hC (0 : Int64) (by decide) dX5_size_19 ?_
    refine n_ldc2 hC (2 : Int64) kc_X5_58 dX5_size_20 ?_
    refine n_callSi (As := [.long x2.toInt64, .long (0 : Int64), .long (2 : Int64)]) (rest := []) hC (c_X5_in l M3 x2.toInt64 (0 : Int64) (2 : Int64)) my_X5_in ml_X5_13 rfl rfl rfl (Nat.le_of_ble_eq_true rfl) ⟨by decide, by decide⟩ dX5_size_23 (fun r4 M5 => ?_)
    refine n_if_ne hC 33 dX5_size_26 (by decide) ?_ ?_
    · refine n_aload_n hC 0 rfl dX5_size_33 ?_
      refine n_get hC clX5 h0 3 (.ref (b + (rf a0 3))) (by decide) rfl fl_X5_72 rfl dX5_size_34 ?_
      refine n_iload_n hC 1 rfl dX5_size_37 ?_
      refine n_iald hC (kf_X5_3 h0) dX5_size_38 (fun g6 => ?_)
      refine n_iconst hC (2 : Int32) (by decide) dX5_size_39 ?_
      refine n_icmp_ne hC 50 dX5_size_40 (by decide) ?_ ?_
      · refine n_aload_n hC 0 rfl dX5_size_50 ?_
        refine n_get hC clX5 h0 14 (.ref (b + (rf a0 14))) (by decide) rfl fl_X5_39 rfl dX5_size_51 ?_
        refine n_iload_n hC 1 rfl dX5_size_54 ?_
        refine n_zald hC (kf_X5_14 h0) dX5_size_55 (fun g7 => ?_)
        refine n_if_ne hC 80 dX5_size_56 (by decide) ?_ ?_
        · exact GN.sub [0, 1, 2] rfl (b_X5_size_80 hC a0 x1 x2 h0 M5)
        refine n_iload_n hC 2 rfl dX5_size_59 ?_
        refine n_if_eq hC 73 dX5_size_60 (by decide) ?_ ?_
        · exact GN.sub [0] rfl (b_X5_size_73 hC a0 h0 M5)
        refine n_aload_n hC 0 rfl dX5_size_63 ?_
        refine n_get hC clX5 h0 3 (.ref (b + (rf a0 3))) (by decide) rfl fl_X5_72 rfl dX5_size_64 ?_
        refine n_iload_n hC 1 rfl dX5_size_67 ?_
        refine n_iald hC (kf_X5_3 h0) dX5_size_68 (fun g15 => ?_)
        refine n_iconst hC (1 : Int32) (by decide) dX5_size_69 ?_
        refine n_icmp_eq hC 80 dX5_size_70 (by decide) ?_ ?_
        · exact GN.sub [0, 1, 2] rfl (b_X5_size_80 hC a0 x1 x2 h0 M5)
        exact GN.sub [0] rfl (b_X5_size_73 hC a0 h0 M5)
      refine n_aload_n hC 0 rfl dX5_size_43 ?_
      refine n_iconst hC (2 : Int32) (by decide) dX5_size_44 ?_
      refine n_callVi (As := [.int (2 : Int32)]) (rest := []) h0 rfl (by decide) hC (c_X5_fails l M5 a0 (2 : Int32) h0) my_X5_fails ml_X5_85 rfl rfl rfl (Nat.le_of_ble_eq_true rfl) ⟨by decide, by decide⟩ dX5_size_45 (fun r16 M17 => ?_)
      refine n_i2l hC dX5_size_48 ?_
      exact n_lret hC dX5_size_49
    refine n_ldc2 hC (-3 : Int64) kc_X5_297 dX5_size_29 ?_
    exact n_lret hC dX5_size_32
  refine n_ldc2 hC (-2 : Int64) kc_X5_295 dX5_size_13 ?_
  exact n_lret hC dX5_size_16
def f_X5_extra (M : Me) (a0 : Nat) (x1 : Int32) (x2 : Int32) (x3 : Int32) (x4 : Int32) : Option (Int32 × Me) := bnd (sI M a0 0 (0 : Int32)) (fun M1 => cal (f_X5_isEntry M1 a0 x1) (fun r2 M3 => if r2 = (0 : Int32) then some ((-2 : Int32), M3) else chk x1 (ln (rf a0 10)) (cal (f_X5_in M3 x2.toInt64 (0 : Int64) ((((M3.1 (rf a0 10) x1.toNatClampNeg) - (1 : Int32))).toInt64)) (fun r5 M6 => if r5 = (0 : Int32) then some ((-2 : Int32), M6) else cal (f_X5_in M6 x3.toInt64 (0 : Int64) (2 : Int64)) (fun r7 M8 => if r7 = (0 : Int32) then some ((-3 : Int32), M8) else bndV (((3 : Int32) * x1) + x2) (fun v9 => if (2 : Int32) ≤ x3 then chk v9 (ln (rf a0 12)) (cal (f_X5_in M8 x4.toInt64 (0 : Int64) ((((M8.1 (rf a0 12) v9.toNatClampNeg) - (1 : Int32))).toInt64)) (fun r11 M12 => if r11 = (0 : Int32) then cal (f_X5_fails M12 a0 (3 : Int32)) (fun r13 M14 => some (r13, M14)) else chk (((8 : Int32) * v9) + x4) (ln (rf a0 13)) (some ((M12.1 (rf a0 13) (((8 : Int32) * v9) + x4).toNatClampNeg), M12)))) else if x3 = (0 : Int32) then chk v9 (ln (rf a0 11)) (some ((M8.1 (rf a0 11) v9.toNatClampNeg), M8)) else chk v9 (ln (rf a0 12)) (some ((M8.1 (rf a0 12) v9.toNatClampNeg), M8))))))))
set_option maxHeartbeats 4000000 in
set_option maxRecDepth 100000 in
theorem c_X5_extra (l : Launch) (M : Me) (a0 : Nat) (x1 : Int32) (x2 : Int32) (x3 : Int32) (x4 : Int32) (h0 : kd a0 = 5) : CN l yX5_extra cX5_extra 6 (some .int) (k2_rm 2 46) eI (fun b => [.ref (b + a0), .int x1, .int x2, .int x3, .int x4]) M (f_X5_extra M a0 x1 x2 x3 x4) := by
  refine CN.of RX5 (fun b => [(0, .ref (b + a0)), (1, .int x1), (2, .int x2), (3, .int x3), (4, .int x4)]) (by decide) rfl (fun b => Nat.le_of_ble_eq_true rfl) (fun b => rfl) ?_
  intro p e s m args below meth c D T b hC
  unfold f_X5_extra
  refine n_aload_n hC 0 rfl dX5_extra_0 ?_
  refine n_iconst hC (0 : Int32) (by decide) dX5_extra_1 ?_
  refine n_putI hC clX5 h0 0 (by decide) rfl rfl rfl fl_X5_1 dX5_extra_2 (fun M1 => ?_)
  refine n_aload_n hC 0 rfl dX5_extra_5 ?_
  refine n_iload_n hC 1 rfl dX5_extra_6 ?_
  refine n_callVi (As := [.int x1]) (rest := []) h0 rfl (by decide) hC (c_X5_isEntry l M1 a0 x1 h0) my_X5_isEntry ml_X5_81 rfl rfl rfl (Nat.le_of_ble_eq_true rfl) ⟨by decide, by decide⟩ dX5_extra_7 (fun r2 M3 => ?_)
  refine n_if_eq hC 31 dX5_extra_10 (by decide) ?_ ?_
  · refine n_bipush hC (-2 : Int32) (by decide) dX5_extra_31 ?_
    exact n_iret hC dX5_extra_33
  refine n_iload_n hC 2 rfl dX5_extra_13 ?_
  refine n_i2l hC dX5_extra_14 ?_
  refine n_lconst hC (0 : Int64) (by decide) dX5_extra_15 ?_
  refine n_aload_n hC 0 rfl dX5_extra_16 ?_
  refine n_get hC clX5 h0 10 (.ref (b + (rf a0 10))) (by decide) rfl fl_X5_36 rfl dX5_extra_17 ?_
  refine n_iload_n hC 1 rfl dX5_extra_20 ?_
  refine n_iald hC (kf_X5_10 h0) dX5_extra_21 (fun g4 => ?_)
  refine n_iconst hC (1 : Int32) (by decide) dX5_extra_22 ?_
  refine n_isub hC dX5_extra_23 ?_
  refine n_i2l hC dX5_extra_24 ?_
  refine n_callSi (As := [.long x2.toInt64, .long (0 : Int64), .long (((M3.1 (rf a0 10) x1.toNatClampNeg) - (1 : Int32))).toInt64]) (rest := []) hC (c_X5_in l M3 x2.toInt64 (0 : Int64) ((((M3.1 (rf a0 10) x1.toNatClampNeg) - (1 : Int32))).toInt64)) my_X5_in ml_X5_13 rfl rfl rfl (Nat.le_of_ble_eq_true rfl) ⟨by decide, by decide⟩ dX5_extra_25 (fun r5 M6 => ?_)
  refine n_if_ne hC 34 dX5_extra_28 (by decide) ?_ ?_
  · refine n_iload_n hC 3 rfl dX5_extra_34 ?_
    refine n_i2l hC dX5_extra_35 ?_
    refine n_lconst hC (0 : Int64) (by decide) dX5_extra_36 ?_
    refine n_ldc2 hC (2 : Int64) kc_X5_58 dX5_extra_37 ?_
    refine n_callSi (As := [.long x3.toInt64, .long (0 : Int64), .long (2 : Int64)]) (rest := []) hC (c_X5_in l M6 x3.toInt64 (0 : Int64) (2 : Int64)) my_X5_in ml_X5_13 rfl rfl rfl (Nat.le_of_ble_eq_true rfl) ⟨by decide, by decide⟩ dX5_extra_40 (fun r7 M8 => ?_)
    refine n_if_ne hC 49 dX5_extra_43 (by decide) ?_ ?_
    · refine n_iconst hC (3 : Int32) (by decide) dX5_extra_49 ?_
      refine n_iload_n hC 1 rfl dX5_extra_50 ?_
      refine n_imul hC dX5_extra_51 ?_
      refine n_iload_n hC 2 rfl dX5_extra_52 ?_
      refine n_iadd hC dX5_extra_53 ?_
      refine n_istB hC (fun v9 => [(5, .int v9), (0, .ref (b + a0)), (1, .int x1), (2, .int x2), (3, .int x3), (4, .int x4)]) (by decide) (fun _ => rfl) dX5_extra_54 (fun v9 => ?_)
      refine n_iload_n hC 4 rfl dX5_extra_56 ?_
      refine n_iconst hC (2 : Int32) (by decide) dX5_extra_57 ?_
      refine n_icmp_ge hC 83 dX5_extra_58 (by decide) ?_ ?_
      · refine n_iload hC 5 rfl dX5_extra_83 ?_
        refine n_i2l hC dX5_extra_85 ?_
        refine n_lconst hC (0 : Int64) (by decide) dX5_extra_86 ?_
        refine n_aload_n hC 1 rfl dX5_extra_87 ?_
        refine n_get hC clX5 h0 12 (.ref (b + (rf a0 12))) (by decide) rfl fl_X5_99 rfl dX5_extra_88 ?_
        refine n_iload hC 0 rfl dX5_extra_91 ?_
        refine n_iald hC (kf_X5_12 h0) dX5_extra_93 (fun g10 => ?_)
        refine n_iconst hC (1 : Int32) (by decide) dX5_extra_94 ?_
        refine n_isub hC dX5_extra_95 ?_
        refine n_i2l hC dX5_extra_96 ?_
        refine n_callSi (As := [.long x4.toInt64, .long (0 : Int64), .long (((M8.1 (rf a0 12) v9.toNatClampNeg) - (1 : Int32))).toInt64]) (rest := []) hC (c_X5_in l M8 x4.toInt64 (0 : Int64) ((((M8.1 (rf a0 12) v9.toNatClampNeg) - (1 : Int32))).toInt64)) my_X5_in ml_X5_13 rfl rfl rfl (Nat.le_of_ble_eq_true rfl) ⟨by decide, by decide⟩ dX5_extra_97 (fun r11 M12 => ?_)
        refine n_if_eq hC 119 dX5_extra_100 (by decide) ?_ ?_
        · refine n_aload_n hC 1 rfl dX5_extra_119 ?_
          refine n_iconst hC (3 : Int32) (by decide) dX5_extra_120 ?_
          refine n_callVi (As := [.int (3 : Int32)]) (rest := []) h0 rfl (by decide) hC (c_X5_fails l M12 a0 (3 : Int32) h0) my_X5_fails ml_X5_85 rfl rfl rfl (Nat.le_of_ble_eq_true rfl) ⟨by decide, by decide⟩ dX5_extra_121 (fun r13 M14 => ?_)
          exact n_iret hC dX5_extra_124
        refine n_aload_n hC 1 rfl dX5_extra_103 ?_
        refine n_get hC clX5 h0 13 (.ref (b + (rf a0 13))) (by decide) rfl fl_X5_102 rfl dX5_extra_104 ?_
        refine n_bipush hC (8 : Int32) (by decide) dX5_extra_107 ?_
        refine n_iload hC 0 rfl dX5_extra_109 ?_
        refine n_imul hC dX5_extra_111 ?_
        refine n_iload hC 5 rfl dX5_extra_112 ?_
        refine n_iadd hC dX5_extra_114 ?_
        refine n_iald hC (kf_X5_13 h0) dX5_extra_115 (fun g15 => ?_)
        refine n_goto hC (tgt := 124) (by decide) dX5_extra_116 ?_
        exact n_iret hC dX5_extra_124
      refine n_iload_n hC 4 rfl dX5_extra_61 ?_
      refine n_if_ne hC 75 dX5_extra_62 (by decide) ?_ ?_
      · refine n_aload_n hC 1 rfl dX5_extra_75 ?_
        refine n_get hC clX5 h0 12 (.ref (b + (rf a0 12))) (by decide) rfl fl_X5_99 rfl dX5_extra_76 ?_
        refine n_iload hC 0 rfl dX5_extra_79 ?_
        refine n_iald hC (kf_X5_12 h0) dX5_extra_81 (fun g16 => ?_)
        exact n_iret hC dX5_extra_82
      refine n_aload_n hC 1 rfl dX5_extra_65 ?_
      refine n_get hC clX5 h0 11 (.ref (b + (rf a0 11))) (by decide) rfl fl_X5_96 rfl dX5_extra_66 ?_
      refine n_iload hC 0 rfl dX5_extra_69 ?_
      refine n_iald hC (kf_X5_11 h0) dX5_extra_71 (fun g17 => ?_)
      refine n_goto hC (tgt := 82) (by decide) dX5_extra_72 ?_
      exact n_iret hC dX5_extra_82
    refine n_bipush hC (-3 : Int32) (by decide) dX5_extra_46 ?_
    exact n_iret hC dX5_extra_48
  refine n_bipush hC (-2 : Int32) (by decide) dX5_extra_31 ?_
  exact n_iret hC dX5_extra_33
def j_X5_right_64 (s0 : Int32) (s1 : Nat) (M : Me) : Option (Int32 × Me) := cal (f_X5_fails M s1 s0) (fun r7 M8 => some (r7, M8))
set_option maxHeartbeats 4000000 in
set_option maxRecDepth 100000 in
theorem b_X5_right_64 {p : Program} {l : Launch} {e : Env} {s : State} {m : MethodId} {args : Array Value} {below : List Frame} {meth : Method} {c : Code} {D : va_G} {T : Nat → ClassId} {b : Nat} (hC : CX p s m args meth c cX5_right 2 RX5 (some .int) D T) (s0 : Int32) (s1 : Nat) (hs1 : kd s1 = 5) (M : Me) : GN p l e (k2_rm 2 46) s m args below meth c D T b 2 eI 64 [] [.int s0, .ref (b + s1)] M (j_X5_right_64 s0 s1 M) := by
  unfold j_X5_right_64
  refine n_callVi (As := [.int s0]) (rest := []) hs1 rfl (by decide) hC (c_X5_fails l M s1 s0 hs1) my_X5_fails ml_X5_85 rfl rfl rfl (Nat.le_of_ble_eq_true rfl) ⟨by decide, by decide⟩ dX5_right_64 (fun r7 M8 => ?_)
  exact n_iret hC dX5_right_67
def j_X5_right_48 (a0 : Nat) (x1 : Int32) (M : Me) : Option (Int32 × Me) := chk x1 (ln (rf a0 3)) (if (M.1 (rf a0 3) x1.toNatClampNeg) = (2 : Int32) then j_X5_right_64 (2 : Int32) a0 M else j_X5_right_64 (1 : Int32) a0 M)
set_option maxHeartbeats 4000000 in
set_option maxRecDepth 100000 in
theorem b_X5_right_48 {p : Program} {l : Launch} {e : Env} {s : State} {m : MethodId} {args : Array Value} {below : List Frame} {meth : Method} {c : Code} {D : va_G} {T : Nat → ClassId} {b : Nat} (hC : CX p s m args meth c cX5_right 2 RX5 (some .int) D T) (a0 : Nat) (x1 : Int32) (h0 : kd a0 = 5) (M : Me) : GN p l e (k2_rm 2 46) s m args below meth c D T b 2 eI 48 [(0, .ref (b + a0)), (1, .int x1)] [] M (j_X5_right_48 a0 x1 M) := by
  unfold j_X5_right_48
  refine n_aload_n hC 0 rfl dX5_right_48 ?_
  refine n_aload_n hC 0 rfl dX5_right_49 ?_
  refine n_get hC clX5 h0 3 (.ref (b + (rf a0 3))) (by decide) rfl fl_X5_72 rfl dX5_right_50 ?_
  refine n_iload_n hC 1 rfl dX5_right_53 ?_
  refine n_iald hC (kf_X5_3 h0) dX5_right_54 (fun g6 => ?_)
  refine n_iconst hC (2 : Int32) (by decide) dX5_right_55 ?_
  refine n_icmp_ne hC 63 dX5_right_56 (by decide) ?_ ?_
  · refine n_iconst hC (1 : Int32) (by decide) dX5_right_63 ?_
    exact GN.sub [] rfl (b_X5_right_64 hC (1 : Int32) a0 h0 M)
  refine n_iconst hC (2 : Int32) (by decide) dX5_right_59 ?_
  refine n_goto hC (tgt := 64) (by decide) dX5_right_60 ?_
  exact GN.sub [] rfl (b_X5_right_64 hC (2 : Int32) a0 h0 M)
def f_X5_right (M : Me) (a0 : Nat) (x1 : Int32) : Option (Int32 × Me) := bnd (sI M a0 0 (0 : Int32)) (fun M1 => cal (f_X5_isEntry M1 a0 x1) (fun r2 M3 => if r2 = (0 : Int32) then some ((-2 : Int32), M3) else chk x1 (ln (rf a0 3)) (if (M3.1 (rf a0 3) x1.toNatClampNeg) = (1 : Int32) then some ((-4 : Int32), M3) else chk x1 (ln (rf a0 3)) (if (M3.1 (rf a0 3) x1.toNatClampNeg) = (2 : Int32) then j_X5_right_48 a0 x1 M3 else chk x1 (ln (rf a0 14)) (if (M3.1 (rf a0 14) x1.toNatClampNeg) = (0 : Int32) then j_X5_right_48 a0 x1 M3 else cal (f_X5_sum M3 a0 x1) (fun r10 M11 => cal (f_X5_sumOf M11 a0 x1) (fun r12 M13 => if r10 = r12 then some ((1 : Int32), M13) else some ((0 : Int32), M13))))))))
set_option maxHeartbeats 4000000 in
set_option maxRecDepth 100000 in
theorem c_X5_right (l : Launch) (M : Me) (a0 : Nat) (x1 : Int32) (h0 : kd a0 = 5) : CN l yX5_right cX5_right 2 (some .int) (k2_rm 2 46) eI (fun b => [.ref (b + a0), .int x1]) M (f_X5_right M a0 x1) := by
  refine CN.of RX5 (fun b => [(0, .ref (b + a0)), (1, .int x1)]) (by decide) rfl (fun b => Nat.le_of_ble_eq_true rfl) (fun b => rfl) ?_
  intro p e s m args below meth c D T b hC
  unfold f_X5_right
  refine n_aload_n hC 0 rfl dX5_right_0 ?_
  refine n_iconst hC (0 : Int32) (by decide) dX5_right_1 ?_
  refine n_putI hC clX5 h0 0 (by decide) rfl rfl rfl fl_X5_1 dX5_right_2 (fun M1 => ?_)
  refine n_aload_n hC 0 rfl dX5_right_5 ?_
  refine n_iload_n hC 1 rfl dX5_right_6 ?_
  refine n_callVi (As := [.int x1]) (rest := []) h0 rfl (by decide) hC (c_X5_isEntry l M1 a0 x1 h0) my_X5_isEntry ml_X5_81 rfl rfl rfl (Nat.le_of_ble_eq_true rfl) ⟨by decide, by decide⟩ dX5_right_7 (fun r2 M3 => ?_)
  refine n_if_ne hC 16 dX5_right_10 (by decide) ?_ ?_
  · refine n_aload_n hC 0 rfl dX5_right_16 ?_
    refine n_get hC clX5 h0 3 (.ref (b + (rf a0 3))) (by decide) rfl fl_X5_72 rfl dX5_right_17 ?_
    refine n_iload_n hC 1 rfl dX5_right_20 ?_
    refine n_iald hC (kf_X5_3 h0) dX5_right_21 (fun g4 => ?_)
    refine n_iconst hC (1 : Int32) (by decide) dX5_right_22 ?_
    refine n_icmp_ne hC 29 dX5_right_23 (by decide) ?_ ?_
    · refine n_aload_n hC 0 rfl dX5_right_29 ?_
      refine n_get hC clX5 h0 3 (.ref (b + (rf a0 3))) (by decide) rfl fl_X5_72 rfl dX5_right_30 ?_
      refine n_iload_n hC 1 rfl dX5_right_33 ?_
      refine n_iald hC (kf_X5_3 h0) dX5_right_34 (fun g5 => ?_)
      refine n_iconst hC (2 : Int32) (by decide) dX5_right_35 ?_
      refine n_icmp_eq hC 48 dX5_right_36 (by decide) ?_ ?_
      · exact GN.sub [0, 1] rfl (b_X5_right_48 hC a0 x1 h0 M3)
      refine n_aload_n hC 0 rfl dX5_right_39 ?_
      refine n_get hC clX5 h0 14 (.ref (b + (rf a0 14))) (by decide) rfl fl_X5_39 rfl dX5_right_40 ?_
      refine n_iload_n hC 1 rfl dX5_right_43 ?_
      refine n_zald hC (kf_X5_14 h0) dX5_right_44 (fun g9 => ?_)
      refine n_if_ne hC 68 dX5_right_45 (by decide) ?_ ?_
      · refine n_aload_n hC 0 rfl dX5_right_68 ?_
        refine n_iload_n hC 1 rfl dX5_right_69 ?_
        refine n_callVi (As := [.int x1]) (rest := []) h0 rfl (by decide) hC (c_X5_sum l M3 a0 x1 h0) my_X5_sum ml_X5_144 rfl rfl rfl (Nat.le_of_ble_eq_true rfl) ⟨by decide, by decide⟩ dX5_right_70 (fun r10 M11 => ?_)
        refine n_aload_n hC 0 rfl dX5_right_73 ?_
        refine n_iload_n hC 1 rfl dX5_right_74 ?_
        refine n_callVi (As := [.int x1]) (rest := [.int r10]) h0 rfl (by decide) hC (c_X5_sumOf l M11 a0 x1 h0) my_X5_sumOf ml_X5_122 rfl rfl rfl (Nat.le_of_ble_eq_true rfl) ⟨by decide, by decide⟩ dX5_right_75 (fun r12 M13 => ?_)
        refine n_icmp_ne hC 85 dX5_right_78 (by decide) ?_ ?_
        · refine n_iconst hC (0 : Int32) (by decide) dX5_right_85 ?_
          exact n_iret hC dX5_right_86
        refine n_iconst hC (1 : Int32) (by decide) dX5_right_81 ?_
        refine n_goto hC (tgt := 86) (by decide) dX5_right_82 ?_
        exact n_iret hC dX5_right_86
      exact GN.sub [0, 1] rfl (b_X5_right_48 hC a0 x1 h0 M3)
    refine n_bipush hC (-4 : Int32) (by decide) dX5_right_26 ?_
    exact n_iret hC dX5_right_28
  refine n_bipush hC (-2 : Int32) (by decide) dX5_right_13 ?_
  exact n_iret hC dX5_right_15
def j_X5_same_95 (kx : Int32 → Int32 → Me → Option (Int32 × Me)) (kb : Int32 × Int32 × Me → Option (Int32 × Me)) (a0 : Nat) (x1 : Int32) (x2 : Int32) (x3 : Int32) (x4 : Int32) (s0 : Int32) (M : Me) : Option (Int32 × Me) := bndV (x4 + (1 : Int32)) (fun v9 => kb (s0, v9, M))
set_option maxHeartbeats 4000000 in
set_option maxRecDepth 100000 in
theorem b_X5_same_95 {p : Program} {l : Launch} {e : Env} {s : State} {m : MethodId} {args : Array Value} {below : List Frame} {meth : Method} {c : Code} {D : va_G} {T : Nat → ClassId} {b : Nat} (hC : CX p s m args meth c cX5_same 5 RX5 (some .int) D T) (a0 : Nat) (x1 : Int32) (x2 : Int32) (x3 : Int32) (x4 : Int32) (s0 : Int32) (h0 : kd a0 = 5) (kx : Int32 → Int32 → Me → Option (Int32 × Me)) (hkx : ∀ (x3 : Int32) (x4 : Int32) (M : Me), GN p l e (k2_rm 2 46) s m args below meth c D T b 5 eI 102 [(0, .ref (b + a0)), (1, .int x1), (2, .int x2), (3, .int x3)] [] M (kx x3 x4 M)) (kb : Int32 × Int32 × Me → Option (Int32 × Me)) (hkb : ∀ z : Int32 × Int32 × Me, GN p l e (k2_rm 2 46) s m args below meth c D T b 5 eI 48 [(0, .ref (b + a0)), (1, .int x1), (2, .int x2), (3, .int z.1), (4, .int z.2.1)] [] z.2.2 (kb z)) (M : Me) : GN p l e (k2_rm 2 46) s m args below meth c D T b 5 eI 95 [(0, .ref (b + a0)), (1, .int x1), (2, .int x2), (3, .int x3), (4, .int x4)] [.int s0] M (j_X5_same_95 kx kb a0 x1 x2 x3 x4 s0 M) := by
  unfold j_X5_same_95
  refine n_istore_n hC rfl [(3, .int s0), (0, .ref (b + a0)), (1, .int x1), (2, .int x2), (4, .int x4)] (by decide) rfl dX5_same_95 ?_
  refine n_iincB hC (1 : Int32) (by decide) (fun v9 => [(4, .int v9), (3, .int s0), (0, .ref (b + a0)), (1, .int x1), (2, .int x2)]) 4 rfl (by decide) (fun _ => rfl) dX5_same_96 (fun v9 => ?_)
  refine n_goto hC (tgt := 48) (by decide) dX5_same_99 ?_
  exact GN.sub [2, 3, 4, 1, 0] rfl (hkb (s0, v9, M))
def g_X5_same_48 (kx : Int32 → Int32 → Me → Option (Int32 × Me)) (kb : Int32 × Int32 × Me → Option (Int32 × Me)) (a0 : Nat) (x1 : Int32) (x2 : Int32) (x3 : Int32) (x4 : Int32) (M : Me) : Option (Int32 × Me) := chk x1 (ln (rf a0 6)) (if (M.1 (rf a0 6) x1.toNatClampNeg) ≤ x4 then kx x3 x4 M else if x3 = (0 : Int32) then kx x3 x4 M else chk (((16 : Int32) * x2) + x4) (ln (rf a0 5)) (chk (((16 : Int32) * x1) + x4) (ln (rf a0 5)) (if (M.1 (rf a0 5) (((16 : Int32) * x2) + x4).toNatClampNeg) = (M.1 (rf a0 5) (((16 : Int32) * x1) + x4).toNatClampNeg) then j_X5_same_95 kx kb a0 x1 x2 x3 x4 (1 : Int32) M else j_X5_same_95 kx kb a0 x1 x2 x3 x4 (0 : Int32) M)))
set_option maxHeartbeats 4000000 in
set_option maxRecDepth 100000 in
theorem b_X5_same_48_g {p : Program} {l : Launch} {e : Env} {s : State} {m : MethodId} {args : Array Value} {below : List Frame} {meth : Method} {c : Code} {D : va_G} {T : Nat → ClassId} {b : Nat} (hC : CX p s m args meth c cX5_same 5 RX5 (some .int) D T) (a0 : Nat) (x1 : Int32) (x2 : Int32) (x3 : Int32) (x4 : Int32) (h0 : kd a0 = 5) (kx : Int32 → Int32 → Me → Option (Int32 × Me)) (hkx : ∀ (x3 : Int32) (x4 : Int32) (M : Me), GN p l e (k2_rm 2 46) s m args below meth c D T b 5 eI 102 [(0, .ref (b + a0)), (1, .int x1), (2, .int x2), (3, .int x3)] [] M (kx x3 x4 M)) (kb : Int32 × Int32 × Me → Option (Int32 × Me)) (hkb : ∀ z : Int32 × Int32 × Me, GN p l e (k2_rm 2 46) s m args below meth c D T b 5 eI 48 [(0, .ref (b + a0)), (1, .int x1), (2, .int x2), (3, .int z.1), (4, .int z.2.1)] [] z.2.2 (kb z)) (M : Me) : GN p l e (k2_rm 2 46) s m args below meth c D T b 5 eI 48 [(0, .ref (b + a0)), (1, .int x1), (2, .int x2), (3, .int x3), (4, .int x4)] [] M (g_X5_same_48 kx kb a0 x1 x2 x3 x4 M) := by
  unfold g_X5_same_48
  refine n_iload hC 4 rfl dX5_same_48 ?_
  refine n_aload_n hC 0 rfl dX5_same_50 ?_
  refine n_get hC clX5 h0 6 (.ref (b + (rf a0 6))) (by decide) rfl fl_X5_23 rfl dX5_same_51 ?_
  refine n_iload_n hC 1 rfl dX5_same_54 ?_
  refine n_iald hC (kf_X5_6 h0) dX5_same_55 (fun g6 => ?_)
  refine n_icmp_ge hC 102 dX5_same_56 (by decide) ?_ ?_
  · exact GN.sub [0, 1, 2, 3] rfl (hkx x3 x4 M)
  refine n_iload_n hC 3 rfl dX5_same_59 ?_
  refine n_if_eq hC 102 dX5_same_60 (by decide) ?_ ?_
  · exact GN.sub [0, 1, 2, 3] rfl (hkx x3 x4 M)
  refine n_aload_n hC 0 rfl dX5_same_63 ?_
  refine n_get hC clX5 h0 5 (.ref (b + (rf a0 5))) (by decide) rfl fl_X5_78 rfl dX5_same_64 ?_
  refine n_bipush hC (16 : Int32) (by decide) dX5_same_67 ?_
  refine n_iload_n hC 2 rfl dX5_same_69 ?_
  refine n_imul hC dX5_same_70 ?_
  refine n_iload hC 4 rfl dX5_same_71 ?_
  refine n_iadd hC dX5_same_73 ?_
  refine n_iald hC (kf_X5_5 h0) dX5_same_74 (fun g7 => ?_)
  refine n_aload_n hC 0 rfl dX5_same_75 ?_
  refine n_get hC clX5 h0 5 (.ref (b + (rf a0 5))) (by decide) rfl fl_X5_78 rfl dX5_same_76 ?_
  refine n_bipush hC (16 : Int32) (by decide) dX5_same_79 ?_
  refine n_iload_n hC 1 rfl dX5_same_81 ?_
  refine n_imul hC dX5_same_82 ?_
  refine n_iload hC 4 rfl dX5_same_83 ?_
  refine n_iadd hC dX5_same_85 ?_
  refine n_iald hC (kf_X5_5 h0) dX5_same_86 (fun g8 => ?_)
  refine n_icmp_ne hC 94 dX5_same_87 (by decide) ?_ ?_
  · refine n_iconst hC (0 : Int32) (by decide) dX5_same_94 ?_
    exact GN.sub [0, 1, 2, 3, 4] rfl (b_X5_same_95 hC a0 x1 x2 x3 x4 (0 : Int32) h0 kx hkx kb hkb M)
  refine n_iconst hC (1 : Int32) (by decide) dX5_same_90 ?_
  refine n_goto hC (tgt := 95) (by decide) dX5_same_91 ?_
  exact GN.sub [0, 1, 2, 3, 4] rfl (b_X5_same_95 hC a0 x1 x2 x3 x4 (1 : Int32) h0 kx hkx kb hkb M)
def l_X5_same_48 (kx : Int32 → Int32 → Me → Option (Int32 × Me)) (a0 : Nat) (x1 : Int32) (x2 : Int32) (x3 : Int32) (x4 : Int32) (M : Me) : Option (Int32 × Me) := lp (fun kb z => g_X5_same_48 kx kb a0 x1 x2 z.1 z.2.1 z.2.2) FU (x3, x4, M)
set_option maxHeartbeats 4000000 in
set_option maxRecDepth 100000 in
theorem b_X5_same_48 {p : Program} {l : Launch} {e : Env} {s : State} {m : MethodId} {args : Array Value} {below : List Frame} {meth : Method} {c : Code} {D : va_G} {T : Nat → ClassId} {b : Nat} (hC : CX p s m args meth c cX5_same 5 RX5 (some .int) D T) (a0 : Nat) (x1 : Int32) (x2 : Int32) (x3 : Int32) (x4 : Int32) (h0 : kd a0 = 5) (kx : Int32 → Int32 → Me → Option (Int32 × Me)) (hkx : ∀ (x3 : Int32) (x4 : Int32) (M : Me), GN p l e (k2_rm 2 46) s m args below meth c D T b 5 eI 102 [(0, .ref (b + a0)), (1, .int x1), (2, .int x2), (3, .int x3)] [] M (kx x3 x4 M)) (M : Me) : GN p l e (k2_rm 2 46) s m args below meth c D T b 5 eI 48 [(0, .ref (b + a0)), (1, .int x1), (2, .int x2), (3, .int x3), (4, .int x4)] [] M (l_X5_same_48 kx a0 x1 x2 x3 x4 M) := by
  exact n_loop (σ := Int32 × Int32 × Me) (fun z => [(0, .ref (b + a0)), (1, .int x1), (2, .int x2), (3, .int z.1), (4, .int z.2.1)]) (fun z => z.2.2) (fun kb hkb z => b_X5_same_48_g hC a0 x1 x2 z.1 z.2.1 h0 kx hkx kb hkb z.2.2) FU (x3, x4, M)
def j_X5_same_112 (kx : Int32 → Int32 → Me → Option (Int32 × Me)) (kb : Int32 × Int32 × Me → Option (Int32 × Me)) (a0 : Nat) (x1 : Int32) (x2 : Int32) (x3 : Int32) (s0 : Int32) (s1 : Int32) (M : Me) : Option (Int32 × Me) := bndV (s1 + s0) (fun v13 => kb (v13, x3, M))
set_option maxHeartbeats 4000000 in
set_option maxRecDepth 100000 in
theorem b_X5_same_112 {p : Program} {l : Launch} {e : Env} {s : State} {m : MethodId} {args : Array Value} {below : List Frame} {meth : Method} {c : Code} {D : va_G} {T : Nat → ClassId} {b : Nat} (hC : CX p s m args meth c cX5_same 5 RX5 (some .int) D T) (a0 : Nat) (x1 : Int32) (x2 : Int32) (x3 : Int32) (s0 : Int32) (s1 : Int32) (h0 : kd a0 = 5) (kx : Int32 → Int32 → Me → Option (Int32 × Me)) (hkx : ∀ (x2 : Int32) (x3 : Int32) (M : Me), GN p l e (k2_rm 2 46) s m args below meth c D T b 5 eI 117 [(2, .int x2)] [] M (kx x2 x3 M)) (kb : Int32 × Int32 × Me → Option (Int32 × Me)) (hkb : ∀ z : Int32 × Int32 × Me, GN p l e (k2_rm 2 46) s m args below meth c D T b 5 eI 20 [(0, .ref (b + a0)), (1, .int x1), (2, .int z.1), (3, .int z.2.1)] [] z.2.2 (kb z)) (M : Me) : GN p l e (k2_rm 2 46) s m args below meth c D T b 5 eI 112 [(0, .ref (b + a0)), (1, .int x1), (2, .int x2), (3, .int x3)] [.int s0, .int s1] M (j_X5_same_112 kx kb a0 x1 x2 x3 s0 s1 M) := by
  unfold j_X5_same_112
  refine n_iadd hC dX5_same_112 ?_
  refine n_istB_n hC rfl (fun v13 => [(2, .int v13), (0, .ref (b + a0)), (1, .int x1), (3, .int x3)]) (by decide) (fun _ => rfl) dX5_same_113 (fun v13 => ?_)
  refine n_goto hC (tgt := 20) (by decide) dX5_same_114 ?_
  exact GN.sub [1, 2, 0, 3] rfl (hkb (v13, x3, M))
def j_X5_same_102 (kx : Int32 → Int32 → Me → Option (Int32 × Me)) (kb : Int32 × Int32 × Me → Option (Int32 × Me)) (a0 : Nat) (x1 : Int32) (x2 : Int32) (x3 : Int32) (M : Me) : Option (Int32 × Me) := if x3 = (0 : Int32) then j_X5_same_112 kx kb a0 x1 x2 x3 (1 : Int32) x2 M else j_X5_same_112 kx kb a0 x1 x2 x3 (0 : Int32) x2 M
set_option maxHeartbeats 4000000 in
set_option maxRecDepth 100000 in
theorem b_X5_same_102 {p : Program} {l : Launch} {e : Env} {s : State} {m : MethodId} {args : Array Value} {below : List Frame} {meth : Method} {c : Code} {D : va_G} {T : Nat → ClassId} {b : Nat} (hC : CX p s m args meth c cX5_same 5 RX5 (some .int) D T) (a0 : Nat) (x1 : Int32) (x2 : Int32) (x3 : Int32) (h0 : kd a0 = 5) (kx : Int32 → Int32 → Me → Option (Int32 × Me)) (hkx : ∀ (x2 : Int32) (x3 : Int32) (M : Me), GN p l e (k2_rm 2 46) s m args below meth c D T b 5 eI 117 [(2, .int x2)] [] M (kx x2 x3 M)) (kb : Int32 × Int32 × Me → Option (Int32 × Me)) (hkb : ∀ z : Int32 × Int32 × Me, GN p l e (k2_rm 2 46) s m args below meth c D T b 5 eI 20 [(0, .ref (b + a0)), (1, .int x1), (2, .int z.1), (3, .int z.2.1)] [] z.2.2 (kb z)) (M : Me) : GN p l e (k2_rm 2 46) s m args below meth c D T b 5 eI 102 [(0, .ref (b + a0)), (1, .int x1), (2, .int x2), (3, .int x3)] [] M (j_X5_same_102 kx kb a0 x1 x2 x3 M) := by
  unfold j_X5_same_102
  refine n_iload_n hC 2 rfl dX5_same_102 ?_
  refine n_iload_n hC 3 rfl dX5_same_103 ?_
  refine n_if_eq hC 111 dX5_same_104 (by decide) ?_ ?_
  · refine n_iconst hC (1 : Int32) (by decide) dX5_same_111 ?_
    exact GN.sub [0, 1, 2, 3] rfl (b_X5_same_112 hC a0 x1 x2 x3 (1 : Int32) x2 h0 kx hkx kb hkb M)
  refine n_iconst hC (0 : Int32) (by decide) dX5_same_107 ?_
  refine n_goto hC (tgt := 112) (by decide) dX5_same_108 ?_
  exact GN.sub [0, 1, 2, 3] rfl (b_X5_same_112 hC a0 x1 x2 x3 (0 : Int32) x2 h0 kx hkx kb hkb M)
def j_X5_same_44 (kx : Int32 → Int32 → Me → Option (Int32 × Me)) (kb : Int32 × Int32 × Me → Option (Int32 × Me)) (a0 : Nat) (x1 : Int32) (x2 : Int32) (x3 : Int32) (s0 : Int32) (M : Me) : Option (Int32 × Me) := l_X5_same_48 (fun v10 v11 M12 => j_X5_same_102 kx kb a0 x1 x2 v10 M12) a0 x1 x2 s0 (0 : Int32) M
set_option maxHeartbeats 4000000 in
set_option maxRecDepth 100000 in
theorem b_X5_same_44 {p : Program} {l : Launch} {e : Env} {s : State} {m : MethodId} {args : Array Value} {below : List Frame} {meth : Method} {c : Code} {D : va_G} {T : Nat → ClassId} {b : Nat} (hC : CX p s m args meth c cX5_same 5 RX5 (some .int) D T) (a0 : Nat) (x1 : Int32) (x2 : Int32) (x3 : Int32) (s0 : Int32) (h0 : kd a0 = 5) (kx : Int32 → Int32 → Me → Option (Int32 × Me)) (hkx : ∀ (x2 : Int32) (x3 : Int32) (M : Me), GN p l e (k2_rm 2 46) s m args below meth c D T b 5 eI 117 [(2, .int x2)] [] M (kx x2 x3 M)) (kb : Int32 × Int32 × Me → Option (Int32 × Me)) (hkb : ∀ z : Int32 × Int32 × Me, GN p l e (k2_rm 2 46) s m args below meth c D T b 5 eI 20 [(0, .ref (b + a0)), (1, .int x1), (2, .int z.1), (3, .int z.2.1)] [] z.2.2 (kb z)) (M : Me) : GN p l e (k2_rm 2 46) s m args below meth c D T b 5 eI 44 [(0, .ref (b + a0)), (1, .int x1), (2, .int x2), (3, .int x3)] [.int s0] M (j_X5_same_44 kx kb a0 x1 x2 x3 s0 M) := by
  unfold j_X5_same_44
  refine n_istore_n hC rfl [(3, .int s0), (0, .ref (b + a0)), (1, .int x1), (2, .int x2)] (by decide) rfl dX5_same_44 ?_
  refine n_iconst hC (0 : Int32) (by decide) dX5_same_45 ?_
  refine n_istore hC [(4, .int (0 : Int32)), (3, .int s0), (0, .ref (b + a0)), (1, .int x1), (2, .int x2)] (by decide) rfl dX5_same_46 ?_
  refine GN.sub [2, 3, 4, 1, 0] rfl (b_X5_same_48 hC a0 x1 x2 s0 (0 : Int32) h0 _ (fun v10 v11 M12 => ?_) M)
  exact GN.sub [0, 1, 2, 3] rfl (b_X5_same_102 hC a0 x1 x2 v10 h0 kx hkx kb hkb M12)
def g_X5_same_20 (kx : Int32 → Int32 → Me → Option (Int32 × Me)) (kb : Int32 × Int32 × Me → Option (Int32 × Me)) (a0 : Nat) (x1 : Int32) (x2 : Int32) (x3 : Int32) (M : Me) : Option (Int32 × Me) := if x3 = (0 : Int32) then chk x2 (ln (rf a0 6)) (chk x1 (ln (rf a0 6)) (if (M.1 (rf a0 6) x2.toNatClampNeg) = (M.1 (rf a0 6) x1.toNatClampNeg) then j_X5_same_44 kx kb a0 x1 x2 x3 (1 : Int32) M else j_X5_same_44 kx kb a0 x1 x2 x3 (0 : Int32) M)) else kx x2 x3 M
set_option maxHeartbeats 4000000 in
set_option maxRecDepth 100000 in
theorem b_X5_same_20_g {p : Program} {l : Launch} {e : Env} {s : State} {m : MethodId} {args : Array Value} {below : List Frame} {meth : Method} {c : Code} {D : va_G} {T : Nat → ClassId} {b : Nat} (hC : CX p s m args meth c cX5_same 5 RX5 (some .int) D T) (a0 : Nat) (x1 : Int32) (x2 : Int32) (x3 : Int32) (h0 : kd a0 = 5) (kx : Int32 → Int32 → Me → Option (Int32 × Me)) (hkx : ∀ (x2 : Int32) (x3 : Int32) (M : Me), GN p l e (k2_rm 2 46) s m args below meth c D T b 5 eI 117 [(2, .int x2)] [] M (kx x2 x3 M)) (kb : Int32 × Int32 × Me → Option (Int32 × Me)) (hkb : ∀ z : Int32 × Int32 × Me, GN p l e (k2_rm 2 46) s m args below meth c D T b 5 eI 20 [(0, .ref (b + a0)), (1, .int x1), (2, .int z.1), (3, .int z.2.1)] [] z.2.2 (kb z)) (M : Me) : GN p l e (k2_rm 2 46) s m args below meth c D T b 5 eI 20 [(0, .ref (b + a0)), (1, .int x1), (2, .int x2), (3, .int x3)] [] M (g_X5_same_20 kx kb a0 x1 x2 x3 M) := by
  unfold g_X5_same_20
  refine n_iload_n hC 3 rfl dX5_same_20 ?_
  refine n_if_ne hC 117 dX5_same_21 (by decide) ?_ ?_
  · exact GN.sub [2] rfl (hkx x2 x3 M)
  refine n_aload_n hC 0 rfl dX5_same_24 ?_
  refine n_get hC clX5 h0 6 (.ref (b + (rf a0 6))) (by decide) rfl fl_X5_23 rfl dX5_same_25 ?_
  refine n_iload_n hC 2 rfl dX5_same_28 ?_
  refine n_iald hC (kf_X5_6 h0) dX5_same_29 (fun g4 => ?_)
  refine n_aload_n hC 0 rfl dX5_same_30 ?_
  refine n_get hC clX5 h0 6 (.ref (b + (rf a0 6))) (by decide) rfl fl_X5_23 rfl dX5_same_31 ?_
  refine n_iload_n hC 1 rfl dX5_same_34 ?_
  refine n_iald hC (kf_X5_6 h0) dX5_same_35 (fun g5 => ?_)
  refine n_icmp_ne hC 43 dX5_same_36 (by decide) ?_ ?_
  · refine n_iconst hC (0 : Int32) (by decide) dX5_same_43 ?_
    exact GN.sub [0, 1, 2, 3] rfl (b_X5_same_44 hC a0 x1 x2 x3 (0 : Int32) h0 kx hkx kb hkb M)
  refine n_iconst hC (1 : Int32) (by decide) dX5_same_39 ?_
  refine n_goto hC (tgt := 44) (by decide) dX5_same_40 ?_
  exact GN.sub [0, 1, 2, 3] rfl (b_X5_same_44 hC a0 x1 x2 x3 (1 : Int32) h0 kx hkx kb hkb M)
def l_X5_same_20 (kx : Int32 → Int32 → Me → Option (Int32 × Me)) (a0 : Nat) (x1 : Int32) (x2 : Int32) (x3 : Int32) (M : Me) : Option (Int32 × Me) := lp (fun kb z => g_X5_same_20 kx kb a0 x1 z.1 z.2.1 z.2.2) FU (x2, x3, M)
set_option maxHeartbeats 4000000 in
set_option maxRecDepth 100000 in
theorem b_X5_same_20 {p : Program} {l : Launch} {e : Env} {s : State} {m : MethodId} {args : Array Value} {below : List Frame} {meth : Method} {c : Code} {D : va_G} {T : Nat → ClassId} {b : Nat} (hC : CX p s m args meth c cX5_same 5 RX5 (some .int) D T) (a0 : Nat) (x1 : Int32) (x2 : Int32) (x3 : Int32) (h0 : kd a0 = 5) (kx : Int32 → Int32 → Me → Option (Int32 × Me)) (hkx : ∀ (x2 : Int32) (x3 : Int32) (M : Me), GN p l e (k2_rm 2 46) s m args below meth c D T b 5 eI 117 [(2, .int x2)] [] M (kx x2 x3 M)) (M : Me) : GN p l e (k2_rm 2 46) s m args below meth c D T b 5 eI 20 [(0, .ref (b + a0)), (1, .int x1), (2, .int x2), (3, .int x3)] [] M (l_X5_same_20 kx a0 x1 x2 x3 M) := by
  exact n_loop (σ := Int32 × Int32 × Me) (fun z => [(0, .ref (b + a0)), (1, .int x1), (2, .int z.1), (3, .int z.2.1)]) (fun z => z.2.2) (fun kb hkb z => b_X5_same_20_g hC a0 x1 z.1 z.2.1 h0 kx hkx kb hkb z.2.2) FU (x2, x3, M)
def f_X5_same (M : Me) (a0 : Nat) (x1 : Int32) : Option (Int32 × Me) := bnd (sI M a0 0 (0 : Int32)) (fun M1 => cal (f_X5_isEntry M1 a0 x1) (fun r2 M3 => if r2 = (0 : Int32) then some ((-2 : Int32), M3) else l_X5_same_20 (fun v14 v15 M16 => some (v14, M16)) a0 x1 (0 : Int32) (0 : Int32) M3))
set_option maxHeartbeats 4000000 in
set_option maxRecDepth 100000 in
theorem c_X5_same (l : Launch) (M : Me) (a0 : Nat) (x1 : Int32) (h0 : kd a0 = 5) : CN l yX5_same cX5_same 5 (some .int) (k2_rm 2 46) eI (fun b => [.ref (b + a0), .int x1]) M (f_X5_same M a0 x1) := by
  refine CN.of RX5 (fun b => [(0, .ref (b + a0)), (1, .int x1)]) (by decide) rfl (fun b => Nat.le_of_ble_eq_true rfl) (fun b => rfl) ?_
  intro p e s m args below meth c D T b hC
  unfold f_X5_same
  refine n_aload_n hC 0 rfl dX5_same_0 ?_
  refine n_iconst hC (0 : Int32) (by decide) dX5_same_1 ?_
  refine n_putI hC clX5 h0 0 (by decide) rfl rfl rfl fl_X5_1 dX5_same_2 (fun M1 => ?_)
  refine n_aload_n hC 0 rfl dX5_same_5 ?_
  refine n_iload_n hC 1 rfl dX5_same_6 ?_
  refine n_callVi (As := [.int x1]) (rest := []) h0 rfl (by decide) hC (c_X5_isEntry l M1 a0 x1 h0) my_X5_isEntry ml_X5_81 rfl rfl rfl (Nat.le_of_ble_eq_true rfl) ⟨by decide, by decide⟩ dX5_same_7 (fun r2 M3 => ?_)
  refine n_if_ne hC 16 dX5_same_10 (by decide) ?_ ?_
  · refine n_iconst hC (0 : Int32) (by decide) dX5_same_16 ?_
    refine n_istore_n hC rfl [(2, .int (0 : Int32)), (0, .ref (b + a0)), (1, .int x1)] (by decide) rfl dX5_same_17 ?_
    refine n_iconst hC (0 : Int32) (by decide) dX5_same_18 ?_
    refine n_istore_n hC rfl [(3, .int (0 : Int32)), (2, .int (0 : Int32)), (0, .ref (b + a0)), (1, .int x1)] (by decide) rfl dX5_same_19 ?_
    refine GN.sub [2, 3, 1, 0] rfl (b_X5_same_20 hC a0 x1 (0 : Int32) (0 : Int32) h0 _ (fun v14 v15 M16 => ?_) M3)
    refine n_iload_n hC 0 rfl dX5_same_117 ?_
    exact n_iret hC dX5_same_118
  refine n_bipush hC (-2 : Int32) (by decide) dX5_same_13 ?_
  exact n_iret hC dX5_same_15
def f_X5_told (M : Me) (a0 : Nat) (x1 : Int32) : Option (Int32 × Me) := bnd (sI M a0 0 (0 : Int32)) (fun M1 => if x1 = (0 : Int32) then some ((M1.1 a0 2), M1) else if x1 = (1 : Int32) then some ((M1.1 a0 24), M1) else if x1 = (2 : Int32) then some ((M1.1 a0 22), M1) else if x1 = (3 : Int32) then some ((M1.1 a0 1), M1) else some ((-3 : Int32), M1))
set_option maxHeartbeats 4000000 in
set_option maxRecDepth 100000 in
theorem c_X5_told (l : Launch) (M : Me) (a0 : Nat) (x1 : Int32) (h0 : kd a0 = 5) : CN l yX5_told cX5_told 2 (some .int) (k2_rm 0 0) eI (fun b => [.ref (b + a0), .int x1]) M (f_X5_told M a0 x1) := by
  refine CN.of RX5 (fun b => [(0, .ref (b + a0)), (1, .int x1)]) (by decide) rfl (fun b => Nat.le_of_ble_eq_true rfl) (fun b => rfl) ?_
  intro p e s m args below meth c D T b hC
  unfold f_X5_told
  refine n_aload_n hC 0 rfl dX5_told_0 ?_
  refine n_iconst hC (0 : Int32) (by decide) dX5_told_1 ?_
  refine n_putI hC clX5 h0 0 (by decide) rfl rfl rfl fl_X5_1 dX5_told_2 (fun M1 => ?_)
  refine n_iload_n hC 1 rfl dX5_told_5 ?_
  refine n_if_ne hC 16 dX5_told_6 (by decide) ?_ ?_
  · refine n_iload_n hC 1 rfl dX5_told_16 ?_
    refine n_iconst hC (1 : Int32) (by decide) dX5_told_17 ?_
    refine n_icmp_ne hC 28 dX5_told_18 (by decide) ?_ ?_
    · refine n_iload_n hC 1 rfl dX5_told_28 ?_
      refine n_iconst hC (2 : Int32) (by decide) dX5_told_29 ?_
      refine n_icmp_ne hC 40 dX5_told_30 (by decide) ?_ ?_
      · refine n_iload_n hC 1 rfl dX5_told_40 ?_
        refine n_iconst hC (3 : Int32) (by decide) dX5_told_41 ?_
        refine n_icmp_ne hC 52 dX5_told_42 (by decide) ?_ ?_
        · refine n_bipush hC (-3 : Int32) (by decide) dX5_told_52 ?_
          exact n_iret hC dX5_told_54
        refine n_aload_n hC 0 rfl dX5_told_45 ?_
        refine n_get hC clX5 h0 1 (.int (M1.1 a0 1)) (by decide) rfl fl_X5_7 rfl dX5_told_46 ?_
        refine n_goto hC (tgt := 54) (by decide) dX5_told_49 ?_
        exact n_iret hC dX5_told_54
      refine n_aload_n hC 0 rfl dX5_told_33 ?_
      refine n_get hC clX5 h0 22 (.int (M1.1 a0 22)) (by decide) rfl fl_X5_118 rfl dX5_told_34 ?_
      refine n_goto hC (tgt := 54) (by decide) dX5_told_37 ?_
      exact n_iret hC dX5_told_54
    refine n_aload_n hC 0 rfl dX5_told_21 ?_
    refine n_get hC clX5 h0 24 (.int (M1.1 a0 24)) (by decide) rfl fl_X5_180 rfl dX5_told_22 ?_
    refine n_goto hC (tgt := 54) (by decide) dX5_told_25 ?_
    exact n_iret hC dX5_told_54
  refine n_aload_n hC 0 rfl dX5_told_9 ?_
  refine n_get hC clX5 h0 2 (.int (M1.1 a0 2)) (by decide) rfl fl_X5_10 rfl dX5_told_10 ?_
  refine n_goto hC (tgt := 54) (by decide) dX5_told_13 ?_
  exact n_iret hC dX5_told_54
