def f_X2_dataPlace (M : Me) (a0 : Nat) : Option (Int32 × Me) := some (((((M.2 a0 17).toInt32 + (30 : Int32)) + (M.1 a0 6)) + (M.1 a0 7)), M)
set_option maxHeartbeats 4000000 in
set_option maxRecDepth 100000 in
theorem c_X2_dataPlace (l : Launch) (M : Me) (a0 : Nat) (h0 : kd a0 = 2) : CN l yX2_dataPlace cX2_dataPlace 1 (some .int) (k2_rm 0 0) eI (fun b => [.ref (b + a0)]) M (f_X2_dataPlace M a0) := by
  refine CN.of RX2 (fun b => [(0, .ref (b + a0))]) (by decide) rfl (fun b => Nat.le_of_ble_eq_true rfl) (fun b => rfl) ?_
  intro p e s m args below meth c D T b hC
  unfold f_X2_dataPlace
  refine n_aload_n hC 0 rfl dX2_dataPlace_0 ?_
  refine n_get hC clX2 h0 17 (.long (M.2 a0 17)) (by decide) rfl fl_X2_65 rfl dX2_dataPlace_1 ?_
  refine n_l2i hC dX2_dataPlace_4 ?_
  refine n_bipush hC (30 : Int32) (by decide) dX2_dataPlace_5 ?_
  refine n_iadd hC dX2_dataPlace_7 ?_
  refine n_aload_n hC 0 rfl dX2_dataPlace_8 ?_
  refine n_get hC clX2 h0 6 (.int (M.1 a0 6)) (by decide) rfl fl_X2_30 rfl dX2_dataPlace_9 ?_
  refine n_iadd hC dX2_dataPlace_12 ?_
  refine n_aload_n hC 0 rfl dX2_dataPlace_13 ?_
  refine n_get hC clX2 h0 7 (.int (M.1 a0 7)) (by decide) rfl fl_X2_33 rfl dX2_dataPlace_14 ?_
  refine n_iadd hC dX2_dataPlace_17 ?_
  exact n_iret hC dX2_dataPlace_18
def f_X2_form (M : Me) (a0 : Nat) : Option (Int32 × Me) := if (M.1 a0 10) = (0 : Int32) then if (M.1 a0 1) = (8 : Int32) then some ((1 : Int32), M) else some ((0 : Int32), M) else some ((2 : Int32), M)
set_option maxHeartbeats 4000000 in
set_option maxRecDepth 100000 in
theorem c_X2_form (l : Launch) (M : Me) (a0 : Nat) (h0 : kd a0 = 2) : CN l yX2_form cX2_form 1 (some .int) (k2_rm 0 0) eI (fun b => [.ref (b + a0)]) M (f_X2_form M a0) := by
  refine CN.of RX2 (fun b => [(0, .ref (b + a0))]) (by decide) rfl (fun b => Nat.le_of_ble_eq_true rfl) (fun b => rfl) ?_
  intro p e s m args below meth c D T b hC
  unfold f_X2_form
  refine n_aload_n hC 0 rfl dX2_form_0 ?_
  refine n_get hC clX2 h0 10 (.int (M.1 a0 10)) (by decide) rfl fl_X2_42 rfl dX2_form_1 ?_
  refine n_if_eq hC 9 dX2_form_4 (by decide) ?_ ?_
  · refine n_aload_n hC 0 rfl dX2_form_9 ?_
    refine n_get hC clX2 h0 1 (.int (M.1 a0 1)) (by decide) rfl fl_X2_15 rfl dX2_form_10 ?_
    refine n_bipush hC (8 : Int32) (by decide) dX2_form_13 ?_
    refine n_icmp_ne hC 22 dX2_form_15 (by decide) ?_ ?_
    · refine n_iconst hC (0 : Int32) (by decide) dX2_form_22 ?_
      exact n_iret hC dX2_form_23
    refine n_iconst hC (1 : Int32) (by decide) dX2_form_18 ?_
    refine n_goto hC (tgt := 23) (by decide) dX2_form_19 ?_
    exact n_iret hC dX2_form_23
  refine n_iconst hC (2 : Int32) (by decide) dX2_form_7 ?_
  exact n_iret hC dX2_form_8
def f_X2_kind (M : Me) (a0 : Nat) : Option (Int32 × Me) := if (M.1 a0 11) = (0 : Int32) then if (M.1 a0 2) = (8 : Int32) then some ((1 : Int32), M) else some ((0 : Int32), M) else some ((2 : Int32), M)
set_option maxHeartbeats 4000000 in
set_option maxRecDepth 100000 in
theorem c_X2_kind (l : Launch) (M : Me) (a0 : Nat) (h0 : kd a0 = 2) : CN l yX2_kind cX2_kind 1 (some .int) (k2_rm 0 0) eI (fun b => [.ref (b + a0)]) M (f_X2_kind M a0) := by
  refine CN.of RX2 (fun b => [(0, .ref (b + a0))]) (by decide) rfl (fun b => Nat.le_of_ble_eq_true rfl) (fun b => rfl) ?_
  intro p e s m args below meth c D T b hC
  unfold f_X2_kind
  refine n_aload_n hC 0 rfl dX2_kind_0 ?_
  refine n_get hC clX2 h0 11 (.int (M.1 a0 11)) (by decide) rfl fl_X2_46 rfl dX2_kind_1 ?_
  refine n_if_eq hC 9 dX2_kind_4 (by decide) ?_ ?_
  · refine n_aload_n hC 0 rfl dX2_kind_9 ?_
    refine n_get hC clX2 h0 2 (.int (M.1 a0 2)) (by decide) rfl fl_X2_18 rfl dX2_kind_10 ?_
    refine n_bipush hC (8 : Int32) (by decide) dX2_kind_13 ?_
    refine n_icmp_ne hC 22 dX2_kind_15 (by decide) ?_ ?_
    · refine n_iconst hC (0 : Int32) (by decide) dX2_kind_22 ?_
      exact n_iret hC dX2_kind_23
    refine n_iconst hC (1 : Int32) (by decide) dX2_kind_18 ?_
    refine n_goto hC (tgt := 23) (by decide) dX2_kind_19 ?_
    exact n_iret hC dX2_kind_23
  refine n_iconst hC (2 : Int32) (by decide) dX2_kind_7 ?_
  exact n_iret hC dX2_kind_8
def f_X2_namePlace (M : Me) (a0 : Nat) : Option (Int32 × Me) := some (((M.1 a0 0) + (46 : Int32)), M)
set_option maxHeartbeats 4000000 in
set_option maxRecDepth 100000 in
theorem c_X2_namePlace (l : Launch) (M : Me) (a0 : Nat) (h0 : kd a0 = 2) : CN l yX2_namePlace cX2_namePlace 1 (some .int) (k2_rm 0 0) eI (fun b => [.ref (b + a0)]) M (f_X2_namePlace M a0) := by
  refine CN.of RX2 (fun b => [(0, .ref (b + a0))]) (by decide) rfl (fun b => Nat.le_of_ble_eq_true rfl) (fun b => rfl) ?_
  intro p e s m args below meth c D T b hC
  unfold f_X2_namePlace
  refine n_aload_n hC 0 rfl dX2_namePlace_0 ?_
  refine n_get hC clX2 h0 0 (.int (M.1 a0 0)) (by decide) rfl fl_X2_9 rfl dX2_namePlace_1 ?_
  refine n_bipush hC (46 : Int32) (by decide) dX2_namePlace_4 ?_
  refine n_iadd hC dX2_namePlace_6 ?_
  exact n_iret hC dX2_namePlace_7
def f_X2_endPlace (M : Me) (a0 : Nat) : Option (Int32 × Me) := some (((((M.1 a0 0) + (46 : Int32)) + (M.1 a0 6)) + (M.1 a0 7)), M)
set_option maxHeartbeats 4000000 in
set_option maxRecDepth 100000 in
theorem c_X2_endPlace (l : Launch) (M : Me) (a0 : Nat) (h0 : kd a0 = 2) : CN l yX2_endPlace cX2_endPlace 1 (some .int) (k2_rm 0 0) eI (fun b => [.ref (b + a0)]) M (f_X2_endPlace M a0) := by
  refine CN.of RX2 (fun b => [(0, .ref (b + a0))]) (by decide) rfl (fun b => Nat.le_of_ble_eq_true rfl) (fun b => rfl) ?_
  intro p e s m args below meth c D T b hC
  unfold f_X2_endPlace
  refine n_aload_n hC 0 rfl dX2_endPlace_0 ?_
  refine n_get hC clX2 h0 0 (.int (M.1 a0 0)) (by decide) rfl fl_X2_9 rfl dX2_endPlace_1 ?_
  refine n_bipush hC (46 : Int32) (by decide) dX2_endPlace_4 ?_
  refine n_iadd hC dX2_endPlace_6 ?_
  refine n_aload_n hC 0 rfl dX2_endPlace_7 ?_
  refine n_get hC clX2 h0 6 (.int (M.1 a0 6)) (by decide) rfl fl_X2_30 rfl dX2_endPlace_8 ?_
  refine n_iadd hC dX2_endPlace_11 ?_
  refine n_aload_n hC 0 rfl dX2_endPlace_12 ?_
  refine n_get hC clX2 h0 7 (.int (M.1 a0 7)) (by decide) rfl fl_X2_33 rfl dX2_endPlace_13 ?_
  refine n_iadd hC dX2_endPlace_16 ?_
  exact n_iret hC dX2_endPlace_17
def g_X2_takeExtra_115 (kx : Int32 → Me → Option (Int32 × Me)) (kb : Int32 × Me → Option (Int32 × Me)) (a0 : Nat) (a1 : Nat) (x2 : Int32) (x3 : Int32) (M : Me) : Option (Int32 × Me) := if (3 : Int32) ≤ (M.1 a0 9) then kx x3 M else if x2 < (x3 + (4 : Int32)) then kx x3 M else cal (f_X3_number2 M a1 (x3 + (2 : Int32))) (fun r11 M12 => cal (f_X3_number2 M12 a1 x3) (fun r13 M14 => if r13 ≤ (1 : Int32) then chZ (0 : Int32) (some ((0 : Int32), M14)) else if r11 ≤ (8 : Int32) then bndV (x3 + ((4 : Int32) + r11)) (fun v15 => bnd (sI M14 a0 9 ((M14.1 a0 9) + (1 : Int32))) (fun M16 => kb (v15, M16))) else chZ (0 : Int32) (some ((0 : Int32), M14))))
set_option maxHeartbeats 4000000 in
set_option maxRecDepth 100000 in
theorem b_X2_takeExtra_115_g {p : Program} {l : Launch} {e : Env} {s : State} {m : MethodId} {args : Array Value} {below : List Frame} {meth : Method} {c : Code} {D : va_G} {T : Nat → ClassId} {b : Nat} (hC : CX p s m args meth c cX2_takeExtra 5 RX2 (some .boolean) D T) (a0 : Nat) (a1 : Nat) (x2 : Int32) (x3 : Int32) (h0 : kd a0 = 2) (h1 : kd a1 = 3) (kx : Int32 → Me → Option (Int32 × Me)) (hkx : ∀ (x3 : Int32) (M : Me), GN p l e (k2_rm 3 67) s m args below meth c D T b 5 eI 177 [(2, .int x2), (3, .int x3)] [] M (kx x3 M)) (kb : Int32 × Me → Option (Int32 × Me)) (hkb : ∀ z : Int32 × Me, GN p l e (k2_rm 3 67) s m args below meth c D T b 5 eI 115 [(0, .ref (b + a0)), (1, .ref (b + a1)), (2, .int x2), (3, .int z.1)] [] z.2 (kb z)) (M : Me) : GN p l e (k2_rm 3 67) s m args below meth c D T b 5 eI 115 [(0, .ref (b + a0)), (1, .ref (b + a1)), (2, .int x2), (3, .int x3)] [] M (g_X2_takeExtra_115 kx kb a0 a1 x2 x3 M) := by
  unfold g_X2_takeExtra_115
  refine n_aload_n hC 0 rfl dX2_takeExtra_115 ?_
  refine n_get hC clX2 h0 9 (.int (M.1 a0 9)) (by decide) rfl fl_X2_39 rfl dX2_takeExtra_116 ?_
  refine n_iconst hC (3 : Int32) (by decide) dX2_takeExtra_119 ?_
  refine n_icmp_ge hC 177 dX2_takeExtra_120 (by decide) ?_ ?_
  · exact GN.sub [2, 3] rfl (hkx x3 M)
  refine n_iload_n hC 3 rfl dX2_takeExtra_123 ?_
  refine n_iconst hC (4 : Int32) (by decide) dX2_takeExtra_124 ?_
  refine n_iadd hC dX2_takeExtra_125 ?_
  refine n_iload_n hC 2 rfl dX2_takeExtra_126 ?_
  refine n_icmp_gt hC 177 dX2_takeExtra_127 (by decide) ?_ ?_
  · exact GN.sub [2, 3] rfl (hkx x3 M)
  refine n_aload_n hC 1 rfl dX2_takeExtra_130 ?_
  refine n_iload_n hC 3 rfl dX2_takeExtra_131 ?_
  refine n_iconst hC (2 : Int32) (by decide) dX2_takeExtra_132 ?_
  refine n_iadd hC dX2_takeExtra_133 ?_
  refine n_callVi (As := [.int (x3 + (2 : Int32))]) (rest := []) h1 rfl (by decide) hC (c_X3_number2 l M a1 (x3 + (2 : Int32)) h1) my_X3_number2 ml_X2_71 rfl rfl rfl (Nat.le_of_ble_eq_true rfl) ⟨by decide, by decide⟩ dX2_takeExtra_134 (fun r11 M12 => ?_)
  refine n_istore hC [(4, .int r11), (0, .ref (b + a0)), (1, .ref (b + a1)), (2, .int x2), (3, .int x3)] (by decide) rfl dX2_takeExtra_137 ?_
  refine n_aload_n hC 2 rfl dX2_takeExtra_139 ?_
  refine n_iload_n hC 4 rfl dX2_takeExtra_140 ?_
  refine n_callVi (As := [.int x3]) (rest := []) h1 rfl (by decide) hC (c_X3_number2 l M12 a1 x3 h1) my_X3_number2 ml_X2_71 rfl rfl rfl (Nat.le_of_ble_eq_true rfl) ⟨by decide, by decide⟩ dX2_takeExtra_141 (fun r13 M14 => ?_)
  refine n_iconst hC (1 : Int32) (by decide) dX2_takeExtra_144 ?_
  refine n_icmp_le hC 155 dX2_takeExtra_145 (by decide) ?_ ?_
  · refine n_iconst hC (0 : Int32) (by decide) dX2_takeExtra_155 ?_
    exact n_zret hC dX2_takeExtra_156
  refine n_iload hC 0 rfl dX2_takeExtra_148 ?_
  refine n_bipush hC (8 : Int32) (by decide) dX2_takeExtra_150 ?_
  refine n_icmp_le hC 157 dX2_takeExtra_152 (by decide) ?_ ?_
  · refine n_iload_n hC 4 rfl dX2_takeExtra_157 ?_
    refine n_iconst hC (4 : Int32) (by decide) dX2_takeExtra_158 ?_
    refine n_iload hC 0 rfl dX2_takeExtra_159 ?_
    refine n_iadd hC dX2_takeExtra_161 ?_
    refine n_iadd hC dX2_takeExtra_162 ?_
    refine n_istB_n hC rfl (fun v15 => [(3, .int v15), (4, .int r11), (0, .ref (b + a0)), (1, .ref (b + a1)), (2, .int x2)]) (by decide) (fun _ => rfl) dX2_takeExtra_163 (fun v15 => ?_)
    refine n_aload_n hC 2 rfl dX2_takeExtra_164 ?_
    refine n_dup hC rfl dX2_takeExtra_165 ?_
    refine n_get hC clX2 h0 9 (.int (M14.1 a0 9)) (by decide) rfl fl_X2_39 rfl dX2_takeExtra_166 ?_
    refine n_iconst hC (1 : Int32) (by decide) dX2_takeExtra_169 ?_
    refine n_iadd hC dX2_takeExtra_170 ?_
    refine n_putI hC clX2 h0 9 (by decide) rfl rfl rfl fl_X2_39 dX2_takeExtra_171 (fun M16 => ?_)
    refine n_goto hC (tgt := 115) (by decide) dX2_takeExtra_174 ?_
    exact GN.sub [2, 3, 4, 0] rfl (hkb (v15, M16))
  refine n_iconst hC (0 : Int32) (by decide) dX2_takeExtra_155 ?_
  exact n_zret hC dX2_takeExtra_156
def l_X2_takeExtra_115 (kx : Int32 → Me → Option (Int32 × Me)) (a0 : Nat) (a1 : Nat) (x2 : Int32) (x3 : Int32) (M : Me) : Option (Int32 × Me) := lp (fun kb z => g_X2_takeExtra_115 kx kb a0 a1 x2 z.1 z.2) FU (x3, M)
set_option maxHeartbeats 4000000 in
set_option maxRecDepth 100000 in
theorem b_X2_takeExtra_115 {p : Program} {l : Launch} {e : Env} {s : State} {m : MethodId} {args : Array Value} {below : List Frame} {meth : Method} {c : Code} {D : va_G} {T : Nat → ClassId} {b : Nat} (hC : CX p s m args meth c cX2_takeExtra 5 RX2 (some .boolean) D T) (a0 : Nat) (a1 : Nat) (x2 : Int32) (x3 : Int32) (h0 : kd a0 = 2) (h1 : kd a1 = 3) (kx : Int32 → Me → Option (Int32 × Me)) (hkx : ∀ (x3 : Int32) (M : Me), GN p l e (k2_rm 3 67) s m args below meth c D T b 5 eI 177 [(2, .int x2), (3, .int x3)] [] M (kx x3 M)) (M : Me) : GN p l e (k2_rm 3 67) s m args below meth c D T b 5 eI 115 [(0, .ref (b + a0)), (1, .ref (b + a1)), (2, .int x2), (3, .int x3)] [] M (l_X2_takeExtra_115 kx a0 a1 x2 x3 M) := by
  exact n_loop (σ := Int32 × Me) (fun z => [(0, .ref (b + a0)), (1, .ref (b + a1)), (2, .int x2), (3, .int z.1)]) (fun z => z.2) (fun kb hkb z => b_X2_takeExtra_115_g hC a0 a1 x2 z.1 h0 h1 kx hkx kb hkb z.2) FU (x3, M)
def j_X2_takeExtra_177 (x2 : Int32) (x3 : Int32) (M : Me) : Option (Int32 × Me) := if x3 = x2 then chZ (1 : Int32) (some ((1 : Int32), M)) else chZ (0 : Int32) (some ((0 : Int32), M))
set_option maxHeartbeats 4000000 in
set_option maxRecDepth 100000 in
theorem b_X2_takeExtra_177 {p : Program} {l : Launch} {e : Env} {s : State} {m : MethodId} {args : Array Value} {below : List Frame} {meth : Method} {c : Code} {D : va_G} {T : Nat → ClassId} {b : Nat} (hC : CX p s m args meth c cX2_takeExtra 5 RX2 (some .boolean) D T) (x2 : Int32) (x3 : Int32) (M : Me) : GN p l e (k2_rm 3 67) s m args below meth c D T b 5 eI 177 [(2, .int x2), (3, .int x3)] [] M (j_X2_takeExtra_177 x2 x3 M) := by
  unfold j_X2_takeExtra_177
  refine n_iload_n hC 1 rfl dX2_takeExtra_177 ?_
  refine n_iload_n hC 0 rfl dX2_takeExtra_178 ?_
  refine n_icmp_ne hC 186 dX2_takeExtra_179 (by decide) ?_ ?_
  · refine n_iconst hC (0 : Int32) (by decide) dX2_takeExtra_186 ?_
    exact n_zret hC dX2_takeExtra_187
  refine n_iconst hC (1 : Int32) (by decide) dX2_takeExtra_182 ?_
  refine n_goto hC (tgt := 187) (by decide) dX2_takeExtra_183 ?_
  exact n_zret hC dX2_takeExtra_187
def j_X2_takeExtra_105 (a0 : Nat) (a1 : Nat) (x2 : Int32) (x3 : Int32) (M : Me) : Option (Int32 × Me) := bnd (sI M a0 8 x3) (fun M9 => bnd (sI M9 a0 9 (0 : Int32)) (fun M10 => l_X2_takeExtra_115 (fun v17 M18 => j_X2_takeExtra_177 x2 v17 M18) a0 a1 x2 x3 M10))
set_option maxHeartbeats 4000000 in
set_option maxRecDepth 100000 in
theorem b_X2_takeExtra_105 {p : Program} {l : Launch} {e : Env} {s : State} {m : MethodId} {args : Array Value} {below : List Frame} {meth : Method} {c : Code} {D : va_G} {T : Nat → ClassId} {b : Nat} (hC : CX p s m args meth c cX2_takeExtra 5 RX2 (some .boolean) D T) (a0 : Nat) (a1 : Nat) (x2 : Int32) (x3 : Int32) (h0 : kd a0 = 2) (h1 : kd a1 = 3) (M : Me) : GN p l e (k2_rm 3 67) s m args below meth c D T b 5 eI 105 [(0, .ref (b + a0)), (1, .ref (b + a1)), (2, .int x2), (3, .int x3)] [] M (j_X2_takeExtra_105 a0 a1 x2 x3 M) := by
  unfold j_X2_takeExtra_105
  refine n_aload_n hC 0 rfl dX2_takeExtra_105 ?_
  refine n_iload_n hC 3 rfl dX2_takeExtra_106 ?_
  refine n_putI hC clX2 h0 8 (by decide) rfl rfl rfl fl_X2_36 dX2_takeExtra_107 (fun M9 => ?_)
  refine n_aload_n hC 0 rfl dX2_takeExtra_110 ?_
  refine n_iconst hC (0 : Int32) (by decide) dX2_takeExtra_111 ?_
  refine n_putI hC clX2 h0 9 (by decide) rfl rfl rfl fl_X2_39 dX2_takeExtra_112 (fun M10 => ?_)
  refine GN.sub [0, 1, 2, 3] rfl (b_X2_takeExtra_115 hC a0 a1 x2 x3 h0 h1 _ (fun v17 M18 => ?_) M10)
  exact GN.sub [0, 1] rfl (b_X2_takeExtra_177 hC x2 v17 M18)
def j_X2_takeExtra_51 (a0 : Nat) (a1 : Nat) (x2 : Int32) (x3 : Int32) (s0 : Int32) (s1 : Nat) (M : Me) : Option (Int32 × Me) := chZ s0 (bnd (sI M s1 10 s0) (fun M6 => bnd (sL M6 a0 15 (M6.2 a0 13)) (fun M7 => bnd (sL M7 a0 16 (M7.2 a0 14)) (fun M8 => if (M8.1 a0 10) = (0 : Int32) then j_X2_takeExtra_105 a0 a1 x2 x3 M8 else cal (f_X3_number8 M8 a1 (x3 + (4 : Int32))) (fun r19 M20 => bnd (sL M20 a0 16 r19) (fun M21 => cal (f_X3_number8 M21 a1 ((x3 + (4 : Int32)) + (8 : Int32))) (fun r22 M23 => bnd (sL M23 a0 15 r22) (fun M24 => bndV (x3 + (20 : Int32)) (fun v25 => j_X2_takeExtra_105 a0 a1 x2 v25 M24)))))))))
set_option maxHeartbeats 4000000 in
set_option maxRecDepth 100000 in
theorem b_X2_takeExtra_51 {p : Program} {l : Launch} {e : Env} {s : State} {m : MethodId} {args : Array Value} {below : List Frame} {meth : Method} {c : Code} {D : va_G} {T : Nat → ClassId} {b : Nat} (hC : CX p s m args meth c cX2_takeExtra 5 RX2 (some .boolean) D T) (a0 : Nat) (a1 : Nat) (x2 : Int32) (x3 : Int32) (s0 : Int32) (s1 : Nat) (h0 : kd a0 = 2) (h1 : kd a1 = 3) (hs1 : kd s1 = 2) (M : Me) : GN p l e (k2_rm 3 67) s m args below meth c D T b 5 eI 51 [(0, .ref (b + a0)), (1, .ref (b + a1)), (2, .int x2), (3, .int x3)] [.int s0, .ref (b + s1)] M (j_X2_takeExtra_51 a0 a1 x2 x3 s0 s1 M) := by
  unfold j_X2_takeExtra_51
  refine n_putZ hC clX2 hs1 10 (by decide) rfl rfl rfl fl_X2_42 dX2_takeExtra_51 (fun M6 => ?_)
  refine n_aload_n hC 0 rfl dX2_takeExtra_54 ?_
  refine n_aload_n hC 0 rfl dX2_takeExtra_55 ?_
  refine n_get hC clX2 h0 13 (.long (M6.2 a0 13)) (by decide) rfl fl_X2_53 rfl dX2_takeExtra_56 ?_
  refine n_putL hC clX2 h0 15 (by decide) rfl rfl rfl fl_X2_59 dX2_takeExtra_59 (fun M7 => ?_)
  refine n_aload_n hC 0 rfl dX2_takeExtra_62 ?_
  refine n_aload_n hC 0 rfl dX2_takeExtra_63 ?_
  refine n_get hC clX2 h0 14 (.long (M7.2 a0 14)) (by decide) rfl fl_X2_56 rfl dX2_takeExtra_64 ?_
  refine n_putL hC clX2 h0 16 (by decide) rfl rfl rfl fl_X2_62 dX2_takeExtra_67 (fun M8 => ?_)
  refine n_aload_n hC 0 rfl dX2_takeExtra_70 ?_
  refine n_get hC clX2 h0 10 (.int (M8.1 a0 10)) (by decide) rfl fl_X2_42 rfl dX2_takeExtra_71 ?_
  refine n_if_eq hC 105 dX2_takeExtra_74 (by decide) ?_ ?_
  · exact GN.sub [0, 1, 2, 3] rfl (b_X2_takeExtra_105 hC a0 a1 x2 x3 h0 h1 M8)
  refine n_aload_n hC 0 rfl dX2_takeExtra_77 ?_
  refine n_aload_n hC 1 rfl dX2_takeExtra_78 ?_
  refine n_iload_n hC 3 rfl dX2_takeExtra_79 ?_
  refine n_iconst hC (4 : Int32) (by decide) dX2_takeExtra_80 ?_
  refine n_iadd hC dX2_takeExtra_81 ?_
  refine n_callVl (As := [.int (x3 + (4 : Int32))]) (rest := [.ref (b + a0)]) h1 rfl (by decide) hC (c_X3_number8 l M8 a1 (x3 + (4 : Int32)) h1) my_X3_number8 ml_X2_95 rfl rfl rfl (Nat.le_of_ble_eq_true rfl) ⟨by decide, by decide⟩ dX2_takeExtra_82 (fun r19 M20 => ?_)
  refine n_putL hC clX2 h0 16 (by decide) rfl rfl rfl fl_X2_62 dX2_takeExtra_85 (fun M21 => ?_)
  refine n_aload_n hC 0 rfl dX2_takeExtra_88 ?_
  refine n_aload_n hC 1 rfl dX2_takeExtra_89 ?_
  refine n_iload_n hC 3 rfl dX2_takeExtra_90 ?_
  refine n_iconst hC (4 : Int32) (by decide) dX2_takeExtra_91 ?_
  refine n_iadd hC dX2_takeExtra_92 ?_
  refine n_bipush hC (8 : Int32) (by decide) dX2_takeExtra_93 ?_
  refine n_iadd hC dX2_takeExtra_95 ?_
  refine n_callVl (As := [.int ((x3 + (4 : Int32)) + (8 : Int32))]) (rest := [.ref (b + a0)]) h1 rfl (by decide) hC (c_X3_number8 l M21 a1 ((x3 + (4 : Int32)) + (8 : Int32)) h1) my_X3_number8 ml_X2_95 rfl rfl rfl (Nat.le_of_ble_eq_true rfl) ⟨by decide, by decide⟩ dX2_takeExtra_96 (fun r22 M23 => ?_)
  refine n_putL hC clX2 h0 15 (by decide) rfl rfl rfl fl_X2_59 dX2_takeExtra_99 (fun M24 => ?_)
  refine n_iincB hC (20 : Int32) (by decide) (fun v25 => [(3, .int v25), (0, .ref (b + a0)), (1, .ref (b + a1)), (2, .int x2)]) 3 rfl (by decide) (fun _ => rfl) dX2_takeExtra_102 (fun v25 => ?_)
  exact GN.sub [1, 2, 3, 0] rfl (b_X2_takeExtra_105 hC a0 a1 x2 v25 h0 h1 M24)
def j_X2_takeExtra_50 (a0 : Nat) (a1 : Nat) (x2 : Int32) (x3 : Int32) (s0 : Nat) (M : Me) : Option (Int32 × Me) := j_X2_takeExtra_51 a0 a1 x2 x3 (0 : Int32) s0 M
set_option maxHeartbeats 4000000 in
set_option maxRecDepth 100000 in
theorem b_X2_takeExtra_50 {p : Program} {l : Launch} {e : Env} {s : State} {m : MethodId} {args : Array Value} {below : List Frame} {meth : Method} {c : Code} {D : va_G} {T : Nat → ClassId} {b : Nat} (hC : CX p s m args meth c cX2_takeExtra 5 RX2 (some .boolean) D T) (a0 : Nat) (a1 : Nat) (x2 : Int32) (x3 : Int32) (s0 : Nat) (h0 : kd a0 = 2) (h1 : kd a1 = 3) (hs0 : kd s0 = 2) (M : Me) : GN p l e (k2_rm 3 67) s m args below meth c D T b 5 eI 50 [(0, .ref (b + a0)), (1, .ref (b + a1)), (2, .int x2), (3, .int x3)] [.ref (b + s0)] M (j_X2_takeExtra_50 a0 a1 x2 x3 s0 M) := by
  unfold j_X2_takeExtra_50
  refine n_iconst hC (0 : Int32) (by decide) dX2_takeExtra_50 ?_
  exact GN.sub [0, 1, 2, 3] rfl (b_X2_takeExtra_51 hC a0 a1 x2 x3 (0 : Int32) s0 h0 h1 hs0 M)
def f_X2_takeExtra (M : Me) (a0 : Nat) (a1 : Nat) : Option (Int32 × Me) := cal (f_X2_endPlace M a0) (fun r1 M2 => cal (f_X2_namePlace M2 a0) (fun r3 M4 => bndV (r3 + (M4.1 a0 6)) (fun v5 => if (M4.1 a0 7) < (20 : Int32) then j_X2_takeExtra_50 a0 a1 r1 v5 a0 M4 else cal (f_X3_number2 M4 a1 v5) (fun r26 M27 => if r26 = (1 : Int32) then cal (f_X3_number2 M27 a1 (v5 + (2 : Int32))) (fun r28 M29 => if r28 = (16 : Int32) then j_X2_takeExtra_51 a0 a1 r1 v5 (1 : Int32) a0 M29 else j_X2_takeExtra_50 a0 a1 r1 v5 a0 M29) else j_X2_takeExtra_50 a0 a1 r1 v5 a0 M27))))
set_option maxHeartbeats 4000000 in
set_option maxRecDepth 100000 in
theorem c_X2_takeExtra (l : Launch) (M : Me) (a0 : Nat) (a1 : Nat) (h0 : kd a0 = 2) (h1 : kd a1 = 3) : CN l yX2_takeExtra cX2_takeExtra 5 (some .boolean) (k2_rm 3 67) eI (fun b => [.ref (b + a0), .ref (b + a1)]) M (f_X2_takeExtra M a0 a1) := by
  refine CN.of RX2 (fun b => [(0, .ref (b + a0)), (1, .ref (b + a1))]) (by decide) rfl (fun b => Nat.le_of_ble_eq_true rfl) (fun b => rfl) ?_
  intro p e s m args below meth c D T b hC
  unfold f_X2_takeExtra
  refine n_aload_n hC 0 rfl dX2_takeExtra_0 ?_
  refine n_callVi (As := []) (rest := []) h0 rfl (by decide) hC (c_X2_endPlace l M a0 h0) my_X2_endPlace ml_X2_92 rfl rfl rfl (Nat.le_of_ble_eq_true rfl) ⟨by decide, by decide⟩ dX2_takeExtra_1 (fun r1 M2 => ?_)
  refine n_istore_n hC rfl [(2, .int r1), (0, .ref (b + a0)), (1, .ref (b + a1))] (by decide) rfl dX2_takeExtra_4 ?_
  refine n_aload_n hC 1 rfl dX2_takeExtra_5 ?_
  refine n_callVi (As := []) (rest := []) h0 rfl (by decide) hC (c_X2_namePlace l M2 a0 h0) my_X2_namePlace ml_X2_81 rfl rfl rfl (Nat.le_of_ble_eq_true rfl) ⟨by decide, by decide⟩ dX2_takeExtra_6 (fun r3 M4 => ?_)
  refine n_aload_n hC 1 rfl dX2_takeExtra_9 ?_
  refine n_get hC clX2 h0 6 (.int (M4.1 a0 6)) (by decide) rfl fl_X2_30 rfl dX2_takeExtra_10 ?_
  refine n_iadd hC dX2_takeExtra_13 ?_
  refine n_istB_n hC rfl (fun v5 => [(3, .int v5), (2, .int r1), (0, .ref (b + a0)), (1, .ref (b + a1))]) (by decide) (fun _ => rfl) dX2_takeExtra_14 (fun v5 => ?_)
  refine n_aload_n hC 2 rfl dX2_takeExtra_15 ?_
  refine n_aload_n hC 2 rfl dX2_takeExtra_16 ?_
  refine n_get hC clX2 h0 7 (.int (M4.1 a0 7)) (by decide) rfl fl_X2_33 rfl dX2_takeExtra_17 ?_
  refine n_bipush hC (20 : Int32) (by decide) dX2_takeExtra_20 ?_
  refine n_icmp_lt hC 50 dX2_takeExtra_22 (by decide) ?_ ?_
  · exact GN.sub [2, 3, 1, 0] rfl (b_X2_takeExtra_50 hC a0 a1 r1 v5 a0 h0 h1 h0 M4)
  refine n_aload_n hC 3 rfl dX2_takeExtra_25 ?_
  refine n_iload_n hC 0 rfl dX2_takeExtra_26 ?_
  refine n_callVi (As := [.int v5]) (rest := [.ref (b + a0)]) h1 rfl (by decide) hC (c_X3_number2 l M4 a1 v5 h1) my_X3_number2 ml_X2_71 rfl rfl rfl (Nat.le_of_ble_eq_true rfl) ⟨by decide, by decide⟩ dX2_takeExtra_27 (fun r26 M27 => ?_)
  refine n_iconst hC (1 : Int32) (by decide) dX2_takeExtra_30 ?_
  refine n_icmp_ne hC 50 dX2_takeExtra_31 (by decide) ?_ ?_
  · exact GN.sub [2, 3, 1, 0] rfl (b_X2_takeExtra_50 hC a0 a1 r1 v5 a0 h0 h1 h0 M27)
  refine n_aload_n hC 3 rfl dX2_takeExtra_34 ?_
  refine n_iload_n hC 0 rfl dX2_takeExtra_35 ?_
  refine n_iconst hC (2 : Int32) (by decide) dX2_takeExtra_36 ?_
  refine n_iadd hC dX2_takeExtra_37 ?_
  refine n_callVi (As := [.int (v5 + (2 : Int32))]) (rest := [.ref (b + a0)]) h1 rfl (by decide) hC (c_X3_number2 l M27 a1 (v5 + (2 : Int32)) h1) my_X3_number2 ml_X2_71 rfl rfl rfl (Nat.le_of_ble_eq_true rfl) ⟨by decide, by decide⟩ dX2_takeExtra_38 (fun r28 M29 => ?_)
  refine n_bipush hC (16 : Int32) (by decide) dX2_takeExtra_41 ?_
  refine n_icmp_ne hC 50 dX2_takeExtra_43 (by decide) ?_ ?_
  · exact GN.sub [2, 3, 1, 0] rfl (b_X2_takeExtra_50 hC a0 a1 r1 v5 a0 h0 h1 h0 M29)
  refine n_iconst hC (1 : Int32) (by decide) dX2_takeExtra_46 ?_
  refine n_goto hC (tgt := 51) (by decide) dX2_takeExtra_47 ?_
  exact GN.sub [2, 3, 1, 0] rfl (b_X2_takeExtra_51 hC a0 a1 r1 v5 (1 : Int32) a0 h0 h1 h0 M29)
def j_X2_hasKnownForm_34 (a0 : Nat) (a1 : Nat) (M : Me) : Option (Int32 × Me) := if (M.1 a0 6) < (1 : Int32) then chZ (0 : Int32) (some ((0 : Int32), M)) else if (16 : Int32) < (M.1 a0 6) then chZ (0 : Int32) (some ((0 : Int32), M)) else cal (f_X2_takeExtra M a0 a1) (fun r1 M2 => if r1 = (0 : Int32) then chZ (0 : Int32) (some ((0 : Int32), M2)) else chZ (1 : Int32) (some ((1 : Int32), M2)))
set_option maxHeartbeats 4000000 in
set_option maxRecDepth 100000 in
theorem b_X2_hasKnownForm_34 {p : Program} {l : Launch} {e : Env} {s : State} {m : MethodId} {args : Array Value} {below : List Frame} {meth : Method} {c : Code} {D : va_G} {T : Nat → ClassId} {b : Nat} (hC : CX p s m args meth c cX2_hasKnownForm 2 RX2 (some .boolean) D T) (a0 : Nat) (a1 : Nat) (h0 : kd a0 = 2) (h1 : kd a1 = 3) (M : Me) : GN p l e (k2_rm 4 91) s m args below meth c D T b 2 eI 34 [(0, .ref (b + a0)), (1, .ref (b + a1))] [] M (j_X2_hasKnownForm_34 a0 a1 M) := by
  unfold j_X2_hasKnownForm_34
  refine n_aload_n hC 0 rfl dX2_hasKnownForm_34 ?_
  refine n_get hC clX2 h0 6 (.int (M.1 a0 6)) (by decide) rfl fl_X2_30 rfl dX2_hasKnownForm_35 ?_
  refine n_iconst hC (1 : Int32) (by decide) dX2_hasKnownForm_38 ?_
  refine n_icmp_lt hC 63 dX2_hasKnownForm_39 (by decide) ?_ ?_
  · refine n_iconst hC (0 : Int32) (by decide) dX2_hasKnownForm_63 ?_
    exact n_zret hC dX2_hasKnownForm_64
  refine n_aload_n hC 0 rfl dX2_hasKnownForm_42 ?_
  refine n_get hC clX2 h0 6 (.int (M.1 a0 6)) (by decide) rfl fl_X2_30 rfl dX2_hasKnownForm_43 ?_
  refine n_bipush hC (16 : Int32) (by decide) dX2_hasKnownForm_46 ?_
  refine n_icmp_gt hC 63 dX2_hasKnownForm_48 (by decide) ?_ ?_
  · refine n_iconst hC (0 : Int32) (by decide) dX2_hasKnownForm_63 ?_
    exact n_zret hC dX2_hasKnownForm_64
  refine n_aload_n hC 0 rfl dX2_hasKnownForm_51 ?_
  refine n_aload_n hC 1 rfl dX2_hasKnownForm_52 ?_
  refine n_callVi (As := [.ref (b + a1)]) (rest := []) h0 rfl (by decide) hC (c_X2_takeExtra l M a0 a1 h0 h1) my_X2_takeExtra ml_X2_88 rfl rfl rfl (Nat.le_of_ble_eq_true rfl) ⟨by decide, by decide⟩ dX2_hasKnownForm_53 (fun r1 M2 => ?_)
  refine n_if_eq hC 63 dX2_hasKnownForm_56 (by decide) ?_ ?_
  · refine n_iconst hC (0 : Int32) (by decide) dX2_hasKnownForm_63 ?_
    exact n_zret hC dX2_hasKnownForm_64
  refine n_iconst hC (1 : Int32) (by decide) dX2_hasKnownForm_59 ?_
  refine n_goto hC (tgt := 64) (by decide) dX2_hasKnownForm_60 ?_
  exact n_zret hC dX2_hasKnownForm_64
def j_X2_hasKnownForm_16 (a0 : Nat) (a1 : Nat) (M : Me) : Option (Int32 × Me) := if (M.1 a0 1) = (0 : Int32) then j_X2_hasKnownForm_34 a0 a1 M else if (M.1 a0 1) = (8 : Int32) then j_X2_hasKnownForm_34 a0 a1 M else chZ (0 : Int32) (some ((0 : Int32), M))
set_option maxHeartbeats 4000000 in
set_option maxRecDepth 100000 in
theorem b_X2_hasKnownForm_16 {p : Program} {l : Launch} {e : Env} {s : State} {m : MethodId} {args : Array Value} {below : List Frame} {meth : Method} {c : Code} {D : va_G} {T : Nat → ClassId} {b : Nat} (hC : CX p s m args meth c cX2_hasKnownForm 2 RX2 (some .boolean) D T) (a0 : Nat) (a1 : Nat) (h0 : kd a0 = 2) (h1 : kd a1 = 3) (M : Me) : GN p l e (k2_rm 4 91) s m args below meth c D T b 2 eI 16 [(0, .ref (b + a0)), (1, .ref (b + a1))] [] M (j_X2_hasKnownForm_16 a0 a1 M) := by
  unfold j_X2_hasKnownForm_16
  refine n_aload_n hC 0 rfl dX2_hasKnownForm_16 ?_
  refine n_get hC clX2 h0 1 (.int (M.1 a0 1)) (by decide) rfl fl_X2_15 rfl dX2_hasKnownForm_17 ?_
  refine n_if_eq hC 34 dX2_hasKnownForm_20 (by decide) ?_ ?_
  · exact GN.sub [0, 1] rfl (b_X2_hasKnownForm_34 hC a0 a1 h0 h1 M)
  refine n_aload_n hC 0 rfl dX2_hasKnownForm_23 ?_
  refine n_get hC clX2 h0 1 (.int (M.1 a0 1)) (by decide) rfl fl_X2_15 rfl dX2_hasKnownForm_24 ?_
  refine n_bipush hC (8 : Int32) (by decide) dX2_hasKnownForm_27 ?_
  refine n_icmp_eq hC 34 dX2_hasKnownForm_29 (by decide) ?_ ?_
  · exact GN.sub [0, 1] rfl (b_X2_hasKnownForm_34 hC a0 a1 h0 h1 M)
  refine n_iconst hC (0 : Int32) (by decide) dX2_hasKnownForm_32 ?_
  exact n_zret hC dX2_hasKnownForm_33
def f_X2_hasKnownForm (M : Me) (a0 : Nat) (a1 : Nat) : Option (Int32 × Me) := if (M.1 a0 2) = (0 : Int32) then j_X2_hasKnownForm_16 a0 a1 M else if (M.1 a0 2) = (8 : Int32) then j_X2_hasKnownForm_16 a0 a1 M else chZ (0 : Int32) (some ((0 : Int32), M))
set_option maxHeartbeats 4000000 in
set_option maxRecDepth 100000 in
theorem c_X2_hasKnownForm (l : Launch) (M : Me) (a0 : Nat) (a1 : Nat) (h0 : kd a0 = 2) (h1 : kd a1 = 3) : CN l yX2_hasKnownForm cX2_hasKnownForm 2 (some .boolean) (k2_rm 4 91) eI (fun b => [.ref (b + a0), .ref (b + a1)]) M (f_X2_hasKnownForm M a0 a1) := by
  refine CN.of RX2 (fun b => [(0, .ref (b + a0)), (1, .ref (b + a1))]) (by decide) rfl (fun b => Nat.le_of_ble_eq_true rfl) (fun b => rfl) ?_
  intro p e s m args below meth c D T b hC
  unfold f_X2_hasKnownForm
  refine n_aload_n hC 0 rfl dX2_hasKnownForm_0 ?_
  refine n_get hC clX2 h0 2 (.int (M.1 a0 2)) (by decide) rfl fl_X2_18 rfl dX2_hasKnownForm_1 ?_
  refine n_if_eq hC 16 dX2_hasKnownForm_4 (by decide) ?_ ?_
  · exact GN.sub [0, 1] rfl (b_X2_hasKnownForm_16 hC a0 a1 h0 h1 M)
  refine n_aload_n hC 0 rfl dX2_hasKnownForm_7 ?_
  refine n_get hC clX2 h0 2 (.int (M.1 a0 2)) (by decide) rfl fl_X2_18 rfl dX2_hasKnownForm_8 ?_
  refine n_bipush hC (8 : Int32) (by decide) dX2_hasKnownForm_11 ?_
  refine n_icmp_ne hC 32 dX2_hasKnownForm_13 (by decide) ?_ ?_
  · refine n_iconst hC (0 : Int32) (by decide) dX2_hasKnownForm_32 ?_
    exact n_zret hC dX2_hasKnownForm_33
  exact GN.sub [0, 1] rfl (b_X2_hasKnownForm_16 hC a0 a1 h0 h1 M)
def j_X2_hasKnownSizes_117 (a0 : Nat) (M : Me) : Option (Int32 × Me) := if (M.1 a0 11) = (0 : Int32) then chZ (1 : Int32) (some ((1 : Int32), M)) else if (lg_cmp (M.2 a0 15) (0 : Int64)) = (0 : Int32) then if (lg_cmp (M.2 a0 16) (0 : Int64)) = (0 : Int32) then if (M.1 a0 2) = (0 : Int32) then if (M.1 a0 1) = (0 : Int32) then if (M.1 a0 10) = (0 : Int32) then chZ (1 : Int32) (some ((1 : Int32), M)) else chZ (0 : Int32) (some ((0 : Int32), M)) else chZ (0 : Int32) (some ((0 : Int32), M)) else chZ (0 : Int32) (some ((0 : Int32), M)) else chZ (0 : Int32) (some ((0 : Int32), M)) else chZ (0 : Int32) (some ((0 : Int32), M))
set_option maxHeartbeats 4000000 in
set_option maxRecDepth 100000 in
theorem b_X2_hasKnownSizes_117 {p : Program} {l : Launch} {e : Env} {s : State} {m : MethodId} {args : Array Value} {below : List Frame} {meth : Method} {c : Code} {D : va_G} {T : Nat → ClassId} {b : Nat} (hC : CX p s m args meth c cX2_hasKnownSizes 2 RX2 (some .boolean) D T) (a0 : Nat) (h0 : kd a0 = 2) (M : Me) : GN p l e (k2_rm 0 0) s m args below meth c D T b 2 eI 117 [(0, .ref (b + a0))] [] M (j_X2_hasKnownSizes_117 a0 M) := by
  unfold j_X2_hasKnownSizes_117
  refine n_aload_n hC 0 rfl dX2_hasKnownSizes_117 ?_
  refine n_get hC clX2 h0 11 (.int (M.1 a0 11)) (by decide) rfl fl_X2_46 rfl dX2_hasKnownSizes_118 ?_
  refine n_if_eq hC 163 dX2_hasKnownSizes_121 (by decide) ?_ ?_
  · refine n_iconst hC (1 : Int32) (by decide) dX2_hasKnownSizes_163 ?_
    refine n_goto hC (tgt := 168) (by decide) dX2_hasKnownSizes_164 ?_
    exact n_zret hC dX2_hasKnownSizes_168
  refine n_aload_n hC 0 rfl dX2_hasKnownSizes_124 ?_
  refine n_get hC clX2 h0 15 (.long (M.2 a0 15)) (by decide) rfl fl_X2_59 rfl dX2_hasKnownSizes_125 ?_
  refine n_lconst hC (0 : Int64) (by decide) dX2_hasKnownSizes_128 ?_
  refine n_lcmp hC dX2_hasKnownSizes_129 ?_
  refine n_if_ne hC 167 dX2_hasKnownSizes_130 (by decide) ?_ ?_
  · refine n_iconst hC (0 : Int32) (by decide) dX2_hasKnownSizes_167 ?_
    exact n_zret hC dX2_hasKnownSizes_168
  refine n_aload_n hC 0 rfl dX2_hasKnownSizes_133 ?_
  refine n_get hC clX2 h0 16 (.long (M.2 a0 16)) (by decide) rfl fl_X2_62 rfl dX2_hasKnownSizes_134 ?_
  refine n_lconst hC (0 : Int64) (by decide) dX2_hasKnownSizes_137 ?_
  refine n_lcmp hC dX2_hasKnownSizes_138 ?_
  refine n_if_ne hC 167 dX2_hasKnownSizes_139 (by decide) ?_ ?_
  · refine n_iconst hC (0 : Int32) (by decide) dX2_hasKnownSizes_167 ?_
    exact n_zret hC dX2_hasKnownSizes_168
  refine n_aload_n hC 0 rfl dX2_hasKnownSizes_142 ?_
  refine n_get hC clX2 h0 2 (.int (M.1 a0 2)) (by decide) rfl fl_X2_18 rfl dX2_hasKnownSizes_143 ?_
  refine n_if_ne hC 167 dX2_hasKnownSizes_146 (by decide) ?_ ?_
  · refine n_iconst hC (0 : Int32) (by decide) dX2_hasKnownSizes_167 ?_
    exact n_zret hC dX2_hasKnownSizes_168
  refine n_aload_n hC 0 rfl dX2_hasKnownSizes_149 ?_
  refine n_get hC clX2 h0 1 (.int (M.1 a0 1)) (by decide) rfl fl_X2_15 rfl dX2_hasKnownSizes_150 ?_
  refine n_if_ne hC 167 dX2_hasKnownSizes_153 (by decide) ?_ ?_
  · refine n_iconst hC (0 : Int32) (by decide) dX2_hasKnownSizes_167 ?_
    exact n_zret hC dX2_hasKnownSizes_168
  refine n_aload_n hC 0 rfl dX2_hasKnownSizes_156 ?_
  refine n_get hC clX2 h0 10 (.int (M.1 a0 10)) (by decide) rfl fl_X2_42 rfl dX2_hasKnownSizes_157 ?_
  refine n_if_ne hC 167 dX2_hasKnownSizes_160 (by decide) ?_ ?_
  · refine n_iconst hC (0 : Int32) (by decide) dX2_hasKnownSizes_167 ?_
    exact n_zret hC dX2_hasKnownSizes_168
  refine n_iconst hC (1 : Int32) (by decide) dX2_hasKnownSizes_163 ?_
  refine n_goto hC (tgt := 168) (by decide) dX2_hasKnownSizes_164 ?_
  exact n_zret hC dX2_hasKnownSizes_168
def j_X2_hasKnownSizes_99 (a0 : Nat) (M : Me) : Option (Int32 × Me) := if (M.1 a0 1) = (8 : Int32) then if (M.1 a0 10) = (0 : Int32) then j_X2_hasKnownSizes_117 a0 M else chZ (0 : Int32) (some ((0 : Int32), M)) else j_X2_hasKnownSizes_117 a0 M
set_option maxHeartbeats 4000000 in
set_option maxRecDepth 100000 in
theorem b_X2_hasKnownSizes_99 {p : Program} {l : Launch} {e : Env} {s : State} {m : MethodId} {args : Array Value} {below : List Frame} {meth : Method} {c : Code} {D : va_G} {T : Nat → ClassId} {b : Nat} (hC : CX p s m args meth c cX2_hasKnownSizes 2 RX2 (some .boolean) D T) (a0 : Nat) (h0 : kd a0 = 2) (M : Me) : GN p l e (k2_rm 0 0) s m args below meth c D T b 2 eI 99 [(0, .ref (b + a0))] [] M (j_X2_hasKnownSizes_99 a0 M) := by
  unfold j_X2_hasKnownSizes_99
  refine n_aload_n hC 0 rfl dX2_hasKnownSizes_99 ?_
  refine n_get hC clX2 h0 1 (.int (M.1 a0 1)) (by decide) rfl fl_X2_15 rfl dX2_hasKnownSizes_100 ?_
  refine n_bipush hC (8 : Int32) (by decide) dX2_hasKnownSizes_103 ?_
  refine n_icmp_ne hC 117 dX2_hasKnownSizes_105 (by decide) ?_ ?_
  · exact GN.sub [0] rfl (b_X2_hasKnownSizes_117 hC a0 h0 M)
  refine n_aload_n hC 0 rfl dX2_hasKnownSizes_108 ?_
  refine n_get hC clX2 h0 10 (.int (M.1 a0 10)) (by decide) rfl fl_X2_42 rfl dX2_hasKnownSizes_109 ?_
  refine n_if_eq hC 117 dX2_hasKnownSizes_112 (by decide) ?_ ?_
  · exact GN.sub [0] rfl (b_X2_hasKnownSizes_117 hC a0 h0 M)
  refine n_iconst hC (0 : Int32) (by decide) dX2_hasKnownSizes_115 ?_
  exact n_zret hC dX2_hasKnownSizes_116
def j_X2_hasKnownSizes_27 (a0 : Nat) (s0 : Int32) (M : Me) : Option (Int32 × Me) := if s0 = (M.1 a0 10) then if (lg_cmp (M.2 a0 15) (0 : Int64)) < (0 : Int32) then chZ (0 : Int32) (some ((0 : Int32), M)) else if (0 : Int32) < (lg_cmp (M.2 a0 15) (40 : Int64)) then chZ (0 : Int32) (some ((0 : Int32), M)) else if (lg_cmp (M.2 a0 16) (0 : Int64)) < (0 : Int32) then chZ (0 : Int32) (some ((0 : Int32), M)) else if (lg_cmp (M.2 a0 16) (1000000 : Int64)) ≤ (0 : Int32) then if (M.1 a0 2) = (0 : Int32) then if (lg_cmp (M.2 a0 15) (M.2 a0 16)) = (0 : Int32) then j_X2_hasKnownSizes_99 a0 M else chZ (0 : Int32) (some ((0 : Int32), M)) else j_X2_hasKnownSizes_99 a0 M else chZ (0 : Int32) (some ((0 : Int32), M)) else chZ (0 : Int32) (some ((0 : Int32), M))
set_option maxHeartbeats 4000000 in
set_option maxRecDepth 100000 in
theorem b_X2_hasKnownSizes_27 {p : Program} {l : Launch} {e : Env} {s : State} {m : MethodId} {args : Array Value} {below : List Frame} {meth : Method} {c : Code} {D : va_G} {T : Nat → ClassId} {b : Nat} (hC : CX p s m args meth c cX2_hasKnownSizes 2 RX2 (some .boolean) D T) (a0 : Nat) (s0 : Int32) (h0 : kd a0 = 2) (M : Me) : GN p l e (k2_rm 0 0) s m args below meth c D T b 2 eI 27 [(0, .ref (b + a0))] [.int s0] M (j_X2_hasKnownSizes_27 a0 s0 M) := by
  unfold j_X2_hasKnownSizes_27
  refine n_istore_n hC rfl [(1, .int s0), (0, .ref (b + a0))] (by decide) rfl dX2_hasKnownSizes_27 ?_
  refine n_iload_n hC 0 rfl dX2_hasKnownSizes_28 ?_
  refine n_aload_n hC 1 rfl dX2_hasKnownSizes_29 ?_
  refine n_get hC clX2 h0 10 (.int (M.1 a0 10)) (by decide) rfl fl_X2_42 rfl dX2_hasKnownSizes_30 ?_
  refine n_icmp_eq hC 38 dX2_hasKnownSizes_33 (by decide) ?_ ?_
  · refine n_aload_n hC 1 rfl dX2_hasKnownSizes_38 ?_
    refine n_get hC clX2 h0 15 (.long (M.2 a0 15)) (by decide) rfl fl_X2_59 rfl dX2_hasKnownSizes_39 ?_
    refine n_lconst hC (0 : Int64) (by decide) dX2_hasKnownSizes_42 ?_
    refine n_lcmp hC dX2_hasKnownSizes_43 ?_
    refine n_if_lt hC 78 dX2_hasKnownSizes_44 (by decide) ?_ ?_
    · refine n_iconst hC (0 : Int32) (by decide) dX2_hasKnownSizes_78 ?_
      exact n_zret hC dX2_hasKnownSizes_79
    refine n_aload_n hC 1 rfl dX2_hasKnownSizes_47 ?_
    refine n_get hC clX2 h0 15 (.long (M.2 a0 15)) (by decide) rfl fl_X2_59 rfl dX2_hasKnownSizes_48 ?_
    refine n_ldc2 hC (40 : Int64) kc_X2_100 dX2_hasKnownSizes_51 ?_
    refine n_lcmp hC dX2_hasKnownSizes_54 ?_
    refine n_if_gt hC 78 dX2_hasKnownSizes_55 (by decide) ?_ ?_
    · refine n_iconst hC (0 : Int32) (by decide) dX2_hasKnownSizes_78 ?_
      exact n_zret hC dX2_hasKnownSizes_79
    refine n_aload_n hC 1 rfl dX2_hasKnownSizes_58 ?_
    refine n_get hC clX2 h0 16 (.long (M.2 a0 16)) (by decide) rfl fl_X2_62 rfl dX2_hasKnownSizes_59 ?_
    refine n_lconst hC (0 : Int64) (by decide) dX2_hasKnownSizes_62 ?_
    refine n_lcmp hC dX2_hasKnownSizes_63 ?_
    refine n_if_lt hC 78 dX2_hasKnownSizes_64 (by decide) ?_ ?_
    · refine n_iconst hC (0 : Int32) (by decide) dX2_hasKnownSizes_78 ?_
      exact n_zret hC dX2_hasKnownSizes_79
    refine n_aload_n hC 1 rfl dX2_hasKnownSizes_67 ?_
    refine n_get hC clX2 h0 16 (.long (M.2 a0 16)) (by decide) rfl fl_X2_62 rfl dX2_hasKnownSizes_68 ?_
    refine n_ldc2 hC (1000000 : Int64) kc_X2_102 dX2_hasKnownSizes_71 ?_
    refine n_lcmp hC dX2_hasKnownSizes_74 ?_
    refine n_if_le hC 80 dX2_hasKnownSizes_75 (by decide) ?_ ?_
    · refine n_aload_n hC 1 rfl dX2_hasKnownSizes_80 ?_
      refine n_get hC clX2 h0 2 (.int (M.1 a0 2)) (by decide) rfl fl_X2_18 rfl dX2_hasKnownSizes_81 ?_
      refine n_if_ne hC 99 dX2_hasKnownSizes_84 (by decide) ?_ ?_
      · exact GN.sub [1] rfl (b_X2_hasKnownSizes_99 hC a0 h0 M)
      refine n_aload_n hC 1 rfl dX2_hasKnownSizes_87 ?_
      refine n_get hC clX2 h0 15 (.long (M.2 a0 15)) (by decide) rfl fl_X2_59 rfl dX2_hasKnownSizes_88 ?_
      refine n_aload_n hC 1 rfl dX2_hasKnownSizes_91 ?_
      refine n_get hC clX2 h0 16 (.long (M.2 a0 16)) (by decide) rfl fl_X2_62 rfl dX2_hasKnownSizes_92 ?_
      refine n_lcmp hC dX2_hasKnownSizes_95 ?_
      refine n_if_ne hC 115 dX2_hasKnownSizes_96 (by decide) ?_ ?_
      · refine n_iconst hC (0 : Int32) (by decide) dX2_hasKnownSizes_115 ?_
        exact n_zret hC dX2_hasKnownSizes_116
      exact GN.sub [1] rfl (b_X2_hasKnownSizes_99 hC a0 h0 M)
    refine n_iconst hC (0 : Int32) (by decide) dX2_hasKnownSizes_78 ?_
    exact n_zret hC dX2_hasKnownSizes_79
  refine n_iconst hC (0 : Int32) (by decide) dX2_hasKnownSizes_36 ?_
  exact n_zret hC dX2_hasKnownSizes_37
def j_X2_hasKnownSizes_26 (a0 : Nat) (M : Me) : Option (Int32 × Me) := j_X2_hasKnownSizes_27 a0 (0 : Int32) M
set_option maxHeartbeats 4000000 in
set_option maxRecDepth 100000 in
theorem b_X2_hasKnownSizes_26 {p : Program} {l : Launch} {e : Env} {s : State} {m : MethodId} {args : Array Value} {below : List Frame} {meth : Method} {c : Code} {D : va_G} {T : Nat → ClassId} {b : Nat} (hC : CX p s m args meth c cX2_hasKnownSizes 2 RX2 (some .boolean) D T) (a0 : Nat) (h0 : kd a0 = 2) (M : Me) : GN p l e (k2_rm 0 0) s m args below meth c D T b 2 eI 26 [(0, .ref (b + a0))] [] M (j_X2_hasKnownSizes_26 a0 M) := by
  unfold j_X2_hasKnownSizes_26
  refine n_iconst hC (0 : Int32) (by decide) dX2_hasKnownSizes_26 ?_
  exact GN.sub [0] rfl (b_X2_hasKnownSizes_27 hC a0 (0 : Int32) h0 M)
def f_X2_hasKnownSizes (M : Me) (a0 : Nat) : Option (Int32 × Me) := if (lg_cmp (M.2 a0 13) (4294967295 : Int64)) = (0 : Int32) then if (lg_cmp (M.2 a0 14) (4294967295 : Int64)) = (0 : Int32) then j_X2_hasKnownSizes_27 a0 (1 : Int32) M else j_X2_hasKnownSizes_26 a0 M else j_X2_hasKnownSizes_26 a0 M
set_option maxHeartbeats 4000000 in
set_option maxRecDepth 100000 in
theorem c_X2_hasKnownSizes (l : Launch) (M : Me) (a0 : Nat) (h0 : kd a0 = 2) : CN l yX2_hasKnownSizes cX2_hasKnownSizes 2 (some .boolean) (k2_rm 0 0) eI (fun b => [.ref (b + a0)]) M (f_X2_hasKnownSizes M a0) := by
  refine CN.of RX2 (fun b => [(0, .ref (b + a0))]) (by decide) rfl (fun b => Nat.le_of_ble_eq_true rfl) (fun b => rfl) ?_
  intro p e s m args below meth c D T b hC
  unfold f_X2_hasKnownSizes
  refine n_aload_n hC 0 rfl dX2_hasKnownSizes_0 ?_
  refine n_get hC clX2 h0 13 (.long (M.2 a0 13)) (by decide) rfl fl_X2_53 rfl dX2_hasKnownSizes_1 ?_
  refine n_ldc2 hC (4294967295 : Int64) kc_X2_98 dX2_hasKnownSizes_4 ?_
  refine n_lcmp hC dX2_hasKnownSizes_7 ?_
  refine n_if_ne hC 26 dX2_hasKnownSizes_8 (by decide) ?_ ?_
  · exact GN.sub [0] rfl (b_X2_hasKnownSizes_26 hC a0 h0 M)
  refine n_aload_n hC 0 rfl dX2_hasKnownSizes_11 ?_
  refine n_get hC clX2 h0 14 (.long (M.2 a0 14)) (by decide) rfl fl_X2_56 rfl dX2_hasKnownSizes_12 ?_
  refine n_ldc2 hC (4294967295 : Int64) kc_X2_98 dX2_hasKnownSizes_15 ?_
  refine n_lcmp hC dX2_hasKnownSizes_18 ?_
  refine n_if_ne hC 26 dX2_hasKnownSizes_19 (by decide) ?_ ?_
  · exact GN.sub [0] rfl (b_X2_hasKnownSizes_26 hC a0 h0 M)
  refine n_iconst hC (1 : Int32) (by decide) dX2_hasKnownSizes_22 ?_
  refine n_goto hC (tgt := 27) (by decide) dX2_hasKnownSizes_23 ?_
  exact GN.sub [0] rfl (b_X2_hasKnownSizes_27 hC a0 (1 : Int32) h0 M)
def j_X2_isSafeStep_32 (x2 : Int32) (s0 : Int32) (M : Me) : Option (Int32 × Me) := if x2 = (0 : Int32) then chZ (0 : Int32) (some ((0 : Int32), M)) else if s0 = (0 : Int32) then chZ (1 : Int32) (some ((1 : Int32), M)) else chZ (0 : Int32) (some ((0 : Int32), M))
set_option maxHeartbeats 4000000 in
set_option maxRecDepth 100000 in
theorem b_X2_isSafeStep_32 {p : Program} {l : Launch} {e : Env} {s : State} {m : MethodId} {args : Array Value} {below : List Frame} {meth : Method} {c : Code} {D : va_G} {T : Nat → ClassId} {b : Nat} (hC : CX p s m args meth c cX2_isSafeStep 4 RX2 (some .boolean) D T) (x2 : Int32) (s0 : Int32) (M : Me) : GN p l e (k2_rm 1 21) s m args below meth c D T b 4 eI 32 [(2, .int x2)] [.int s0] M (j_X2_isSafeStep_32 x2 s0 M) := by
  unfold j_X2_isSafeStep_32
  refine n_istore_n hC rfl [(3, .int s0), (2, .int x2)] (by decide) rfl dX2_isSafeStep_32 ?_
  refine n_iload_n hC 1 rfl dX2_isSafeStep_33 ?_
  refine n_if_eq hC 45 dX2_isSafeStep_34 (by decide) ?_ ?_
  · refine n_iconst hC (0 : Int32) (by decide) dX2_isSafeStep_45 ?_
    exact n_zret hC dX2_isSafeStep_46
  refine n_iload_n hC 0 rfl dX2_isSafeStep_37 ?_
  refine n_if_ne hC 45 dX2_isSafeStep_38 (by decide) ?_ ?_
  · refine n_iconst hC (0 : Int32) (by decide) dX2_isSafeStep_45 ?_
    exact n_zret hC dX2_isSafeStep_46
  refine n_iconst hC (1 : Int32) (by decide) dX2_isSafeStep_41 ?_
  refine n_goto hC (tgt := 46) (by decide) dX2_isSafeStep_42 ?_
  exact n_zret hC dX2_isSafeStep_46
def j_X2_isSafeStep_31 (x2 : Int32) (M : Me) : Option (Int32 × Me) := j_X2_isSafeStep_32 x2 (0 : Int32) M
set_option maxHeartbeats 4000000 in
set_option maxRecDepth 100000 in
theorem b_X2_isSafeStep_31 {p : Program} {l : Launch} {e : Env} {s : State} {m : MethodId} {args : Array Value} {below : List Frame} {meth : Method} {c : Code} {D : va_G} {T : Nat → ClassId} {b : Nat} (hC : CX p s m args meth c cX2_isSafeStep 4 RX2 (some .boolean) D T) (x2 : Int32) (M : Me) : GN p l e (k2_rm 1 21) s m args below meth c D T b 4 eI 31 [(2, .int x2)] [] M (j_X2_isSafeStep_31 x2 M) := by
  unfold j_X2_isSafeStep_31
  refine n_iconst hC (0 : Int32) (by decide) dX2_isSafeStep_31 ?_
  exact GN.sub [0] rfl (b_X2_isSafeStep_32 hC x2 (0 : Int32) M)
def f_X2_isSafeStep (M : Me) (a0 : Nat) (x1 : Int32) (x2 : Int32) : Option (Int32 × Me) := if x2 = (2 : Int32) then cal (f_X3_number1 M a0 x1) (fun r1 M2 => if r1 = (46 : Int32) then cal (f_X3_number1 M2 a0 (x1 + (1 : Int32))) (fun r3 M4 => if r3 = (46 : Int32) then j_X2_isSafeStep_32 x2 (1 : Int32) M4 else j_X2_isSafeStep_31 x2 M4) else j_X2_isSafeStep_31 x2 M2) else j_X2_isSafeStep_31 x2 M
set_option maxHeartbeats 4000000 in
set_option maxRecDepth 100000 in
theorem c_X2_isSafeStep (l : Launch) (M : Me) (a0 : Nat) (x1 : Int32) (x2 : Int32) (h0 : kd a0 = 3) : CN l yX2_isSafeStep cX2_isSafeStep 4 (some .boolean) (k2_rm 1 21) eI (fun b => [.ref (b + a0), .int x1, .int x2]) M (f_X2_isSafeStep M a0 x1 x2) := by
  refine CN.of RX2 (fun b => [(0, .ref (b + a0)), (1, .int x1), (2, .int x2)]) (by decide) rfl (fun b => Nat.le_of_ble_eq_true rfl) (fun b => rfl) ?_
  intro p e s m args below meth c D T b hC
  unfold f_X2_isSafeStep
  refine n_iload_n hC 2 rfl dX2_isSafeStep_0 ?_
  refine n_iconst hC (2 : Int32) (by decide) dX2_isSafeStep_1 ?_
  refine n_icmp_ne hC 31 dX2_isSafeStep_2 (by decide) ?_ ?_
  · exact GN.sub [2] rfl (b_X2_isSafeStep_31 hC x2 M)
  refine n_aload_n hC 0 rfl dX2_isSafeStep_5 ?_
  refine n_iload_n hC 1 rfl dX2_isSafeStep_6 ?_
  refine n_callVi (As := [.int x1]) (rest := []) h0 rfl (by decide) hC (c_X3_number1 l M a0 x1 h0) my_X3_number1 ml_X2_85 rfl rfl rfl (Nat.le_of_ble_eq_true rfl) ⟨by decide, by decide⟩ dX2_isSafeStep_7 (fun r1 M2 => ?_)
  refine n_bipush hC (46 : Int32) (by decide) dX2_isSafeStep_10 ?_
  refine n_icmp_ne hC 31 dX2_isSafeStep_12 (by decide) ?_ ?_
  · exact GN.sub [2] rfl (b_X2_isSafeStep_31 hC x2 M2)
  refine n_aload_n hC 0 rfl dX2_isSafeStep_15 ?_
  refine n_iload_n hC 1 rfl dX2_isSafeStep_16 ?_
  refine n_iconst hC (1 : Int32) (by decide) dX2_isSafeStep_17 ?_
  refine n_iadd hC dX2_isSafeStep_18 ?_
  refine n_callVi (As := [.int (x1 + (1 : Int32))]) (rest := []) h0 rfl (by decide) hC (c_X3_number1 l M2 a0 (x1 + (1 : Int32)) h0) my_X3_number1 ml_X2_85 rfl rfl rfl (Nat.le_of_ble_eq_true rfl) ⟨by decide, by decide⟩ dX2_isSafeStep_19 (fun r3 M4 => ?_)
  refine n_bipush hC (46 : Int32) (by decide) dX2_isSafeStep_22 ?_
  refine n_icmp_ne hC 31 dX2_isSafeStep_24 (by decide) ?_ ?_
  · exact GN.sub [2] rfl (b_X2_isSafeStep_31 hC x2 M4)
  refine n_iconst hC (1 : Int32) (by decide) dX2_isSafeStep_27 ?_
  refine n_goto hC (tgt := 32) (by decide) dX2_isSafeStep_28 ?_
  exact GN.sub [2] rfl (b_X2_isSafeStep_32 hC x2 (1 : Int32) M4)
def j_X2_isSafe_71 (kx : Int32 → Int32 → Me → Option (Int32 × Me)) (kb : Int32 × Int32 × Me → Option (Int32 × Me)) (a0 : Nat) (a1 : Nat) (x2 : Int32) (x3 : Int32) (x4 : Int32) (M : Me) : Option (Int32 × Me) := bndV (x4 + (1 : Int32)) (fun v5 => kb (x3, v5, M))
set_option maxHeartbeats 4000000 in
set_option maxRecDepth 100000 in
theorem b_X2_isSafe_71 {p : Program} {l : Launch} {e : Env} {s : State} {m : MethodId} {args : Array Value} {below : List Frame} {meth : Method} {c : Code} {D : va_G} {T : Nat → ClassId} {b : Nat} (hC : CX p s m args meth c cX2_isSafe 6 RX2 (some .boolean) D T) (a0 : Nat) (a1 : Nat) (x2 : Int32) (x3 : Int32) (x4 : Int32) (h0 : kd a0 = 2) (h1 : kd a1 = 3) (kx : Int32 → Int32 → Me → Option (Int32 × Me)) (hkx : ∀ (x3 : Int32) (x4 : Int32) (M : Me), GN p l e (k2_rm 2 44) s m args below meth c D T b 6 eI 77 [(0, .ref (b + a0)), (1, .ref (b + a1)), (2, .int x2), (3, .int x3)] [] M (kx x3 x4 M)) (kb : Int32 × Int32 × Me → Option (Int32 × Me)) (hkb : ∀ z : Int32 × Int32 × Me, GN p l e (k2_rm 2 44) s m args below meth c D T b 6 eI 10 [(0, .ref (b + a0)), (1, .ref (b + a1)), (2, .int x2), (3, .int z.1), (4, .int z.2.1)] [] z.2.2 (kb z)) (M : Me) : GN p l e (k2_rm 2 44) s m args below meth c D T b 6 eI 71 [(0, .ref (b + a0)), (1, .ref (b + a1)), (2, .int x2), (3, .int x3), (4, .int x4)] [] M (j_X2_isSafe_71 kx kb a0 a1 x2 x3 x4 M) := by
  unfold j_X2_isSafe_71
  refine n_iincB hC (1 : Int32) (by decide) (fun v5 => [(4, .int v5), (0, .ref (b + a0)), (1, .ref (b + a1)), (2, .int x2), (3, .int x3)]) 4 rfl (by decide) (fun _ => rfl) dX2_isSafe_71 (fun v5 => ?_)
  refine n_goto hC (tgt := 10) (by decide) dX2_isSafe_74 ?_
  exact GN.sub [1, 2, 3, 4, 0] rfl (hkb (x3, v5, M))
def j_X2_isSafe_59 (kx : Int32 → Int32 → Me → Option (Int32 × Me)) (kb : Int32 × Int32 × Me → Option (Int32 × Me)) (a0 : Nat) (a1 : Nat) (x2 : Int32) (x3 : Int32) (x4 : Int32) (x5 : Int32) (M : Me) : Option (Int32 × Me) := if x5 = (47 : Int32) then bndV (x4 + (1 : Int32)) (fun v6 => j_X2_isSafe_71 kx kb a0 a1 x2 v6 x4 M) else j_X2_isSafe_71 kx kb a0 a1 x2 x3 x4 M
set_option maxHeartbeats 4000000 in
set_option maxRecDepth 100000 in
theorem b_X2_isSafe_59 {p : Program} {l : Launch} {e : Env} {s : State} {m : MethodId} {args : Array Value} {below : List Frame} {meth : Method} {c : Code} {D : va_G} {T : Nat → ClassId} {b : Nat} (hC : CX p s m args meth c cX2_isSafe 6 RX2 (some .boolean) D T) (a0 : Nat) (a1 : Nat) (x2 : Int32) (x3 : Int32) (x4 : Int32) (x5 : Int32) (h0 : kd a0 = 2) (h1 : kd a1 = 3) (kx : Int32 → Int32 → Me → Option (Int32 × Me)) (hkx : ∀ (x3 : Int32) (x4 : Int32) (M : Me), GN p l e (k2_rm 2 44) s m args below meth c D T b 6 eI 77 [(0, .ref (b + a0)), (1, .ref (b + a1)), (2, .int x2), (3, .int x3)] [] M (kx x3 x4 M)) (kb : Int32 × Int32 × Me → Option (Int32 × Me)) (hkb : ∀ z : Int32 × Int32 × Me, GN p l e (k2_rm 2 44) s m args below meth c D T b 6 eI 10 [(0, .ref (b + a0)), (1, .ref (b + a1)), (2, .int x2), (3, .int z.1), (4, .int z.2.1)] [] z.2.2 (kb z)) (M : Me) : GN p l e (k2_rm 2 44) s m args below meth c D T b 6 eI 59 [(0, .ref (b + a0)), (1, .ref (b + a1)), (2, .int x2), (3, .int x3), (4, .int x4), (5, .int x5)] [] M (j_X2_isSafe_59 kx kb a0 a1 x2 x3 x4 x5 M) := by
  unfold j_X2_isSafe_59
  refine n_iload hC 5 rfl dX2_isSafe_59 ?_
  refine n_bipush hC (47 : Int32) (by decide) dX2_isSafe_61 ?_
  refine n_icmp_ne hC 71 dX2_isSafe_63 (by decide) ?_ ?_
  · exact GN.sub [0, 1, 2, 3, 4] rfl (b_X2_isSafe_71 hC a0 a1 x2 x3 x4 h0 h1 kx hkx kb hkb M)
  refine n_iload hC 4 rfl dX2_isSafe_66 ?_
  refine n_iconst hC (1 : Int32) (by decide) dX2_isSafe_68 ?_
  refine n_iadd hC dX2_isSafe_69 ?_
  refine n_istB_n hC rfl (fun v6 => [(3, .int v6), (0, .ref (b + a0)), (1, .ref (b + a1)), (2, .int x2), (4, .int x4), (5, .int x5)]) (by decide) (fun _ => rfl) dX2_isSafe_70 (fun v6 => ?_)
  exact GN.sub [1, 2, 3, 0, 4] rfl (b_X2_isSafe_71 hC a0 a1 x2 v6 x4 h0 h1 kx hkx kb hkb M)
def g_X2_isSafe_10 (kx : Int32 → Int32 → Me → Option (Int32 × Me)) (kb : Int32 × Int32 × Me → Option (Int32 × Me)) (a0 : Nat) (a1 : Nat) (x2 : Int32) (x3 : Int32) (x4 : Int32) (M : Me) : Option (Int32 × Me) := if (M.1 a0 6) ≤ x4 then kx x3 x4 M else cal (f_X3_number1 M a1 (x2 + x4)) (fun r3 M4 => if r3 = (92 : Int32) then chZ (0 : Int32) (some ((0 : Int32), M4)) else if r3 = (47 : Int32) then cal (f_X2_isSafeStep M4 a1 (x2 + x3) (x4 - x3)) (fun r7 M8 => if r7 = (0 : Int32) then chZ (0 : Int32) (some ((0 : Int32), M8)) else j_X2_isSafe_59 kx kb a0 a1 x2 x3 x4 r3 M8) else j_X2_isSafe_59 kx kb a0 a1 x2 x3 x4 r3 M4)
set_option maxHeartbeats 4000000 in
set_option maxRecDepth 100000 in
theorem b_X2_isSafe_10_g {p : Program} {l : Launch} {e : Env} {s : State} {m : MethodId} {args : Array Value} {below : List Frame} {meth : Method} {c : Code} {D : va_G} {T : Nat → ClassId} {b : Nat} (hC : CX p s m args meth c cX2_isSafe 6 RX2 (some .boolean) D T) (a0 : Nat) (a1 : Nat) (x2 : Int32) (x3 : Int32) (x4 : Int32) (h0 : kd a0 = 2) (h1 : kd a1 = 3) (kx : Int32 → Int32 → Me → Option (Int32 × Me)) (hkx : ∀ (x3 : Int32) (x4 : Int32) (M : Me), GN p l e (k2_rm 2 44) s m args below meth c D T b 6 eI 77 [(0, .ref (b + a0)), (1, .ref (b + a1)), (2, .int x2), (3, .int x3)] [] M (kx x3 x4 M)) (kb : Int32 × Int32 × Me → Option (Int32 × Me)) (hkb : ∀ z : Int32 × Int32 × Me, GN p l e (k2_rm 2 44) s m args below meth c D T b 6 eI 10 [(0, .ref (b + a0)), (1, .ref (b + a1)), (2, .int x2), (3, .int z.1), (4, .int z.2.1)] [] z.2.2 (kb z)) (M : Me) : GN p l e (k2_rm 2 44) s m args below meth c D T b 6 eI 10 [(0, .ref (b + a0)), (1, .ref (b + a1)), (2, .int x2), (3, .int x3), (4, .int x4)] [] M (g_X2_isSafe_10 kx kb a0 a1 x2 x3 x4 M) := by
  unfold g_X2_isSafe_10
  refine n_iload hC 4 rfl dX2_isSafe_10 ?_
  refine n_aload_n hC 0 rfl dX2_isSafe_12 ?_
  refine n_get hC clX2 h0 6 (.int (M.1 a0 6)) (by decide) rfl fl_X2_30 rfl dX2_isSafe_13 ?_
  refine n_icmp_ge hC 77 dX2_isSafe_16 (by decide) ?_ ?_
  · exact GN.sub [0, 1, 2, 3] rfl (hkx x3 x4 M)
  refine n_aload_n hC 1 rfl dX2_isSafe_19 ?_
  refine n_iload_n hC 2 rfl dX2_isSafe_20 ?_
  refine n_iload hC 4 rfl dX2_isSafe_21 ?_
  refine n_iadd hC dX2_isSafe_23 ?_
  refine n_callVi (As := [.int (x2 + x4)]) (rest := []) h1 rfl (by decide) hC (c_X3_number1 l M a1 (x2 + x4) h1) my_X3_number1 ml_X2_85 rfl rfl rfl (Nat.le_of_ble_eq_true rfl) ⟨by decide, by decide⟩ dX2_isSafe_24 (fun r3 M4 => ?_)
  refine n_istore hC [(5, .int r3), (0, .ref (b + a0)), (1, .ref (b + a1)), (2, .int x2), (3, .int x3), (4, .int x4)] (by decide) rfl dX2_isSafe_27 ?_
  refine n_iload hC 0 rfl dX2_isSafe_29 ?_
  refine n_bipush hC (92 : Int32) (by decide) dX2_isSafe_31 ?_
  refine n_icmp_eq hC 57 dX2_isSafe_33 (by decide) ?_ ?_
  · refine n_iconst hC (0 : Int32) (by decide) dX2_isSafe_57 ?_
    exact n_zret hC dX2_isSafe_58
  refine n_iload hC 0 rfl dX2_isSafe_36 ?_
  refine n_bipush hC (47 : Int32) (by decide) dX2_isSafe_38 ?_
  refine n_icmp_ne hC 59 dX2_isSafe_40 (by decide) ?_ ?_
  · exact GN.sub [1, 2, 3, 4, 5, 0] rfl (b_X2_isSafe_59 hC a0 a1 x2 x3 x4 r3 h0 h1 kx hkx kb hkb M4)
  refine n_aload_n hC 2 rfl dX2_isSafe_43 ?_
  refine n_iload_n hC 3 rfl dX2_isSafe_44 ?_
  refine n_iload_n hC 4 rfl dX2_isSafe_45 ?_
  refine n_iadd hC dX2_isSafe_46 ?_
  refine n_iload hC 5 rfl dX2_isSafe_47 ?_
  refine n_iload_n hC 4 rfl dX2_isSafe_49 ?_
  refine n_isub hC dX2_isSafe_50 ?_
  refine n_callSi (As := [.ref (b + a1), .int (x2 + x3), .int (x4 - x3)]) (rest := []) hC (c_X2_isSafeStep l M4 a1 (x2 + x3) (x4 - x3) h1) my_X2_isSafeStep ml_X2_104 rfl rfl rfl (Nat.le_of_ble_eq_true rfl) ⟨by decide, by decide⟩ dX2_isSafe_51 (fun r7 M8 => ?_)
  refine n_if_ne hC 59 dX2_isSafe_54 (by decide) ?_ ?_
  · exact GN.sub [1, 2, 3, 4, 5, 0] rfl (b_X2_isSafe_59 hC a0 a1 x2 x3 x4 r3 h0 h1 kx hkx kb hkb M8)
  refine n_iconst hC (0 : Int32) (by decide) dX2_isSafe_57 ?_
  exact n_zret hC dX2_isSafe_58
def l_X2_isSafe_10 (kx : Int32 → Int32 → Me → Option (Int32 × Me)) (a0 : Nat) (a1 : Nat) (x2 : Int32) (x3 : Int32) (x4 : Int32) (M : Me) : Option (Int32 × Me) := lp (fun kb z => g_X2_isSafe_10 kx kb a0 a1 x2 z.1 z.2.1 z.2.2) FU (x3, x4, M)
set_option maxHeartbeats 4000000 in
set_option maxRecDepth 100000 in
theorem b_X2_isSafe_10 {p : Program} {l : Launch} {e : Env} {s : State} {m : MethodId} {args : Array Value} {below : List Frame} {meth : Method} {c : Code} {D : va_G} {T : Nat → ClassId} {b : Nat} (hC : CX p s m args meth c cX2_isSafe 6 RX2 (some .boolean) D T) (a0 : Nat) (a1 : Nat) (x2 : Int32) (x3 : Int32) (x4 : Int32) (h0 : kd a0 = 2) (h1 : kd a1 = 3) (kx : Int32 → Int32 → Me → Option (Int32 × Me)) (hkx : ∀ (x3 : Int32) (x4 : Int32) (M : Me), GN p l e (k2_rm 2 44) s m args below meth c D T b 6 eI 77 [(0, .ref (b + a0)), (1, .ref (b + a1)), (2, .int x2), (3, .int x3)] [] M (kx x3 x4 M)) (M : Me) : GN p l e (k2_rm 2 44) s m args below meth c D T b 6 eI 10 [(0, .ref (b + a0)), (1, .ref (b + a1)), (2, .int x2), (3, .int x3), (4, .int x4)] [] M (l_X2_isSafe_10 kx a0 a1 x2 x3 x4 M) := by
  exact n_loop (σ := Int32 × Int32 × Me) (fun z => [(0, .ref (b + a0)), (1, .ref (b + a1)), (2, .int x2), (3, .int z.1), (4, .int z.2.1)]) (fun z => z.2.2) (fun kb hkb z => b_X2_isSafe_10_g hC a0 a1 x2 z.1 z.2.1 h0 h1 kx hkx kb hkb z.2.2) FU (x3, x4, M)
def f_X2_isSafe (M : Me) (a0 : Nat) (a1 : Nat) : Option (Int32 × Me) := cal (f_X2_namePlace M a0) (fun r1 M2 => l_X2_isSafe_10 (fun v9 v10 M11 => if v9 = (M11.1 a0 6) then chZ (1 : Int32) (some ((1 : Int32), M11)) else cal (f_X2_isSafeStep M11 a1 (r1 + v9) ((M11.1 a0 6) - v9)) (fun r12 M13 => if r12 = (0 : Int32) then chZ (0 : Int32) (some ((0 : Int32), M13)) else chZ (1 : Int32) (some ((1 : Int32), M13)))) a0 a1 r1 (0 : Int32) (0 : Int32) M2)
set_option maxHeartbeats 4000000 in
set_option maxRecDepth 100000 in
theorem c_X2_isSafe (l : Launch) (M : Me) (a0 : Nat) (a1 : Nat) (h0 : kd a0 = 2) (h1 : kd a1 = 3) : CN l yX2_isSafe cX2_isSafe 6 (some .boolean) (k2_rm 2 44) eI (fun b => [.ref (b + a0), .ref (b + a1)]) M (f_X2_isSafe M a0 a1) := by
  refine CN.of RX2 (fun b => [(0, .ref (b + a0)), (1, .ref (b + a1))]) (by decide) rfl (fun b => Nat.le_of_ble_eq_true rfl) (fun b => rfl) ?_
  intro p e s m args below meth c D T b hC
  unfold f_X2_isSafe
  refine n_aload_n hC 0 rfl dX2_isSafe_0 ?_
  refine n_callVi (As := []) (rest := []) h0 rfl (by decide) hC (c_X2_namePlace l M a0 h0) my_X2_namePlace ml_X2_81 rfl rfl rfl (Nat.le_of_ble_eq_true rfl) ⟨by decide, by decide⟩ dX2_isSafe_1 (fun r1 M2 => ?_)
  refine n_istore_n hC rfl [(2, .int r1), (0, .ref (b + a0)), (1, .ref (b + a1))] (by decide) rfl dX2_isSafe_4 ?_
  refine n_iconst hC (0 : Int32) (by decide) dX2_isSafe_5 ?_
  refine n_istore_n hC rfl [(3, .int (0 : Int32)), (2, .int r1), (0, .ref (b + a0)), (1, .ref (b + a1))] (by decide) rfl dX2_isSafe_6 ?_
  refine n_iconst hC (0 : Int32) (by decide) dX2_isSafe_7 ?_
  refine n_istore hC [(4, .int (0 : Int32)), (3, .int (0 : Int32)), (2, .int r1), (0, .ref (b + a0)), (1, .ref (b + a1))] (by decide) rfl dX2_isSafe_8 ?_
  refine GN.sub [3, 4, 2, 1, 0] rfl (b_X2_isSafe_10 hC a0 a1 r1 (0 : Int32) (0 : Int32) h0 h1 _ (fun v9 v10 M11 => ?_) M2)
  refine n_iload_n hC 3 rfl dX2_isSafe_77 ?_
  refine n_aload_n hC 0 rfl dX2_isSafe_78 ?_
  refine n_get hC clX2 h0 6 (.int (M11.1 a0 6)) (by decide) rfl fl_X2_30 rfl dX2_isSafe_79 ?_
  refine n_icmp_eq hC 101 dX2_isSafe_82 (by decide) ?_ ?_
  · refine n_iconst hC (1 : Int32) (by decide) dX2_isSafe_101 ?_
    refine n_goto hC (tgt := 106) (by decide) dX2_isSafe_102 ?_
    exact n_zret hC dX2_isSafe_106
  refine n_aload_n hC 1 rfl dX2_isSafe_85 ?_
  refine n_iload_n hC 2 rfl dX2_isSafe_86 ?_
  refine n_iload_n hC 3 rfl dX2_isSafe_87 ?_
  refine n_iadd hC dX2_isSafe_88 ?_
  refine n_aload_n hC 0 rfl dX2_isSafe_89 ?_
  refine n_get hC clX2 h0 6 (.int (M11.1 a0 6)) (by decide) rfl fl_X2_30 rfl dX2_isSafe_90 ?_
  refine n_iload_n hC 3 rfl dX2_isSafe_93 ?_
  refine n_isub hC dX2_isSafe_94 ?_
  refine n_callSi (As := [.ref (b + a1), .int (r1 + v9), .int ((M11.1 a0 6) - v9)]) (rest := []) hC (c_X2_isSafeStep l M11 a1 (r1 + v9) ((M11.1 a0 6) - v9) h1) my_X2_isSafeStep ml_X2_104 rfl rfl rfl (Nat.le_of_ble_eq_true rfl) ⟨by decide, by decide⟩ dX2_isSafe_95 (fun r12 M13 => ?_)
  refine n_if_eq hC 105 dX2_isSafe_98 (by decide) ?_ ?_
  · refine n_iconst hC (0 : Int32) (by decide) dX2_isSafe_105 ?_
    exact n_zret hC dX2_isSafe_106
  refine n_iconst hC (1 : Int32) (by decide) dX2_isSafe_101 ?_
  refine n_goto hC (tgt := 106) (by decide) dX2_isSafe_102 ?_
  exact n_zret hC dX2_isSafe_106
def f_X2_takeFixed (M : Me) (a0 : Nat) (a1 : Nat) (x2 : Int32) : Option (Unit × Me) := bnd (sI M a0 0 x2) (fun M1 => cal (f_X3_number2 M1 a1 ((M1.1 a0 0) + (8 : Int32))) (fun r2 M3 => bnd (sI M3 a0 1 r2) (fun M4 => cal (f_X3_number2 M4 a1 ((M4.1 a0 0) + (10 : Int32))) (fun r5 M6 => bnd (sI M6 a0 2 r5) (fun M7 => cal (f_X3_number2 M7 a1 ((M7.1 a0 0) + (12 : Int32))) (fun r8 M9 => bnd (sI M9 a0 3 r8) (fun M10 => cal (f_X3_number2 M10 a1 ((M10.1 a0 0) + (14 : Int32))) (fun r11 M12 => bnd (sI M12 a0 4 r11) (fun M13 => cal (f_X3_number4 M13 a1 ((M13.1 a0 0) + (16 : Int32))) (fun r14 M15 => bnd (sL M15 a0 12 r14) (fun M16 => cal (f_X3_number4 M16 a1 ((M16.1 a0 0) + (20 : Int32))) (fun r17 M18 => bnd (sL M18 a0 13 r17) (fun M19 => cal (f_X3_number4 M19 a1 ((M19.1 a0 0) + (24 : Int32))) (fun r20 M21 => bnd (sL M21 a0 14 r20) (fun M22 => cal (f_X3_number2 M22 a1 ((M22.1 a0 0) + (28 : Int32))) (fun r23 M24 => bnd (sI M24 a0 6 r23) (fun M25 => cal (f_X3_number2 M25 a1 ((M25.1 a0 0) + (30 : Int32))) (fun r26 M27 => bnd (sI M27 a0 7 r26) (fun M28 => cal (f_X3_number4 M28 a1 ((M28.1 a0 0) + (38 : Int32))) (fun r29 M30 => bnd (sI M30 a0 5 r29.toInt32) (fun M31 => cal (f_X3_number4 M31 a1 ((M31.1 a0 0) + (42 : Int32))) (fun r32 M33 => bnd (sL M33 a0 17 r32) (fun M34 => if (M34.1 a0 6) ≤ (0 : Int32) then chZ (0 : Int32) (bnd (sI M34 a0 11 (0 : Int32)) (fun M35 => some ((), M35))) else cal (f_X2_namePlace M34 a0) (fun r36 M37 => cal (f_X3_number1 M37 a1 ((r36 + (M37.1 a0 6)) - (1 : Int32))) (fun r38 M39 => if r38 = (47 : Int32) then chZ (1 : Int32) (bnd (sI M39 a0 11 (1 : Int32)) (fun M41 => some ((), M41))) else chZ (0 : Int32) (bnd (sI M39 a0 11 (0 : Int32)) (fun M40 => some ((), M40))))))))))))))))))))))))))))
set_option maxHeartbeats 4000000 in
set_option maxRecDepth 100000 in
theorem c_X2_takeFixed (l : Launch) (M : Me) (a0 : Nat) (a1 : Nat) (x2 : Int32) (h0 : kd a0 = 2) (h1 : kd a1 = 3) : CN l yX2_takeFixed cX2_takeFixed 3 none (k2_rm 3 67) eV (fun b => [.ref (b + a0), .ref (b + a1), .int x2]) M (f_X2_takeFixed M a0 a1 x2) := by
  refine CN.of RX2 (fun b => [(0, .ref (b + a0)), (1, .ref (b + a1)), (2, .int x2)]) (by decide) rfl (fun b => Nat.le_of_ble_eq_true rfl) (fun b => rfl) ?_
  intro p e s m args below meth c D T b hC
  unfold f_X2_takeFixed
  refine n_aload_n hC 0 rfl dX2_takeFixed_0 ?_
  refine n_iload_n hC 2 rfl dX2_takeFixed_1 ?_
  refine n_putI hC clX2 h0 0 (by decide) rfl rfl rfl fl_X2_9 dX2_takeFixed_2 (fun M1 => ?_)
  refine n_aload_n hC 0 rfl dX2_takeFixed_5 ?_
  refine n_aload_n hC 1 rfl dX2_takeFixed_6 ?_
  refine n_aload_n hC 0 rfl dX2_takeFixed_7 ?_
  refine n_get hC clX2 h0 0 (.int (M1.1 a0 0)) (by decide) rfl fl_X2_9 rfl dX2_takeFixed_8 ?_
  refine n_bipush hC (8 : Int32) (by decide) dX2_takeFixed_11 ?_
  refine n_iadd hC dX2_takeFixed_13 ?_
  refine n_callVi (As := [.int ((M1.1 a0 0) + (8 : Int32))]) (rest := [.ref (b + a0)]) h1 rfl (by decide) hC (c_X3_number2 l M1 a1 ((M1.1 a0 0) + (8 : Int32)) h1) my_X3_number2 ml_X2_71 rfl rfl rfl (Nat.le_of_ble_eq_true rfl) ⟨by decide, by decide⟩ dX2_takeFixed_14 (fun r2 M3 => ?_)
  refine n_putI hC clX2 h0 1 (by decide) rfl rfl rfl fl_X2_15 dX2_takeFixed_17 (fun M4 => ?_)
  refine n_aload_n hC 0 rfl dX2_takeFixed_20 ?_
  refine n_aload_n hC 1 rfl dX2_takeFixed_21 ?_
  refine n_aload_n hC 0 rfl dX2_takeFixed_22 ?_
  refine n_get hC clX2 h0 0 (.int (M4.1 a0 0)) (by decide) rfl fl_X2_9 rfl dX2_takeFixed_23 ?_
  refine n_bipush hC (10 : Int32) (by decide) dX2_takeFixed_26 ?_
  refine n_iadd hC dX2_takeFixed_28 ?_
  refine n_callVi (As := [.int ((M4.1 a0 0) + (10 : Int32))]) (rest := [.ref (b + a0)]) h1 rfl (by decide) hC (c_X3_number2 l M4 a1 ((M4.1 a0 0) + (10 : Int32)) h1) my_X3_number2 ml_X2_71 rfl rfl rfl (Nat.le_of_ble_eq_true rfl) ⟨by decide, by decide⟩ dX2_takeFixed_29 (fun r5 M6 => ?_)
  refine n_putI hC clX2 h0 2 (by decide) rfl rfl rfl fl_X2_18 dX2_takeFixed_32 (fun M7 => ?_)
  refine n_aload_n hC 0 rfl dX2_takeFixed_35 ?_
  refine n_aload_n hC 1 rfl dX2_takeFixed_36 ?_
  refine n_aload_n hC 0 rfl dX2_takeFixed_37 ?_
  refine n_get hC clX2 h0 0 (.int (M7.1 a0 0)) (by decide) rfl fl_X2_9 rfl dX2_takeFixed_38 ?_
  refine n_bipush hC (12 : Int32) (by decide) dX2_takeFixed_41 ?_
  refine n_iadd hC dX2_takeFixed_43 ?_
  refine n_callVi (As := [.int ((M7.1 a0 0) + (12 : Int32))]) (rest := [.ref (b + a0)]) h1 rfl (by decide) hC (c_X3_number2 l M7 a1 ((M7.1 a0 0) + (12 : Int32)) h1) my_X3_number2 ml_X2_71 rfl rfl rfl (Nat.le_of_ble_eq_true rfl) ⟨by decide, by decide⟩ dX2_takeFixed_44 (fun r8 M9 => ?_)
  refine n_putI hC clX2 h0 3 (by decide) rfl rfl rfl fl_X2_21 dX2_takeFixed_47 (fun M10 => ?_)
  refine n_aload_n hC 0 rfl dX2_takeFixed_50 ?_
  refine n_aload_n hC 1 rfl dX2_takeFixed_51 ?_
  refine n_aload_n hC 0 rfl dX2_takeFixed_52 ?_
  refine n_get hC clX2 h0 0 (.int (M10.1 a0 0)) (by decide) rfl fl_X2_9 rfl dX2_takeFixed_53 ?_
  refine n_bipush hC (14 : Int32) (by decide) dX2_takeFixed_56 ?_
  refine n_iadd hC dX2_takeFixed_58 ?_
  refine n_callVi (As := [.int ((M10.1 a0 0) + (14 : Int32))]) (rest := [.ref (b + a0)]) h1 rfl (by decide) hC (c_X3_number2 l M10 a1 ((M10.1 a0 0) + (14 : Int32)) h1) my_X3_number2 ml_X2_71 rfl rfl rfl (Nat.le_of_ble_eq_true rfl) ⟨by decide, by decide⟩ dX2_takeFixed_59 (fun r11 M12 => ?_)
  refine n_putI hC clX2 h0 4 (by decide) rfl rfl rfl fl_X2_24 dX2_takeFixed_62 (fun M13 => ?_)
  refine n_aload_n hC 0 rfl dX2_takeFixed_65 ?_
  refine n_aload_n hC 1 rfl dX2_takeFixed_66 ?_
  refine n_aload_n hC 0 rfl dX2_takeFixed_67 ?_
  refine n_get hC clX2 h0 0 (.int (M13.1 a0 0)) (by decide) rfl fl_X2_9 rfl dX2_takeFixed_68 ?_
  refine n_bipush hC (16 : Int32) (by decide) dX2_takeFixed_71 ?_
  refine n_iadd hC dX2_takeFixed_73 ?_
  refine n_callVl (As := [.int ((M13.1 a0 0) + (16 : Int32))]) (rest := [.ref (b + a0)]) h1 rfl (by decide) hC (c_X3_number4 l M13 a1 ((M13.1 a0 0) + (16 : Int32)) h1) my_X3_number4 ml_X2_77 rfl rfl rfl (Nat.le_of_ble_eq_true rfl) ⟨by decide, by decide⟩ dX2_takeFixed_74 (fun r14 M15 => ?_)
  refine n_putL hC clX2 h0 12 (by decide) rfl rfl rfl fl_X2_49 dX2_takeFixed_77 (fun M16 => ?_)
  refine n_aload_n hC 0 rfl dX2_takeFixed_80 ?_
  refine n_aload_n hC 1 rfl dX2_takeFixed_81 ?_
  refine n_aload_n hC 0 rfl dX2_takeFixed_82 ?_
  refine n_get hC clX2 h0 0 (.int (M16.1 a0 0)) (by decide) rfl fl_X2_9 rfl dX2_takeFixed_83 ?_
  refine n_bipush hC (20 : Int32) (by decide) dX2_takeFixed_86 ?_
  refine n_iadd hC dX2_takeFixed_88 ?_
  refine n_callVl (As := [.int ((M16.1 a0 0) + (20 : Int32))]) (rest := [.ref (b + a0)]) h1 rfl (by decide) hC (c_X3_number4 l M16 a1 ((M16.1 a0 0) + (20 : Int32)) h1) my_X3_number4 ml_X2_77 rfl rfl rfl (Nat.le_of_ble_eq_true rfl) ⟨by decide, by decide⟩ dX2_takeFixed_89 (fun r17 M18 => ?_)
  refine n_putL hC clX2 h0 13 (by decide) rfl rfl rfl fl_X2_53 dX2_takeFixed_92 (fun M19 => ?_)
  refine n_aload_n hC 0 rfl dX2_takeFixed_95 ?_
  refine n_aload_n hC 1 rfl dX2_takeFixed_96 ?_
  refine n_aload_n hC 0 rfl dX2_takeFixed_97 ?_
  refine n_get hC clX2 h0 0 (.int (M19.1 a0 0)) (by decide) rfl fl_X2_9 rfl dX2_takeFixed_98 ?_
  refine n_bipush hC (24 : Int32) (by decide) dX2_takeFixed_101 ?_
  refine n_iadd hC dX2_takeFixed_103 ?_
  refine n_callVl (As := [.int ((M19.1 a0 0) + (24 : Int32))]) (rest := [.ref (b + a0)]) h1 rfl (by decide) hC (c_X3_number4 l M19 a1 ((M19.1 a0 0) + (24 : Int32)) h1) my_X3_number4 ml_X2_77 rfl rfl rfl (Nat.le_of_ble_eq_true rfl) ⟨by decide, by decide⟩ dX2_takeFixed_104 (fun r20 M21 => ?_)
  refine n_putL hC clX2 h0 14 (by decide) rfl rfl rfl fl_X2_56 dX2_takeFixed_107 (fun M22 => ?_)
  refine n_aload_n hC 0 rfl dX2_takeFixed_110 ?_
  refine n_aload_n hC 1 rfl dX2_takeFixed_111 ?_
  refine n_aload_n hC 0 rfl dX2_takeFixed_112 ?_
  refine n_get hC clX2 h0 0 (.int (M22.1 a0 0)) (by decide) rfl fl_X2_9 rfl dX2_takeFixed_113 ?_
  refine n_bipush hC (28 : Int32) (by decide) dX2_takeFixed_116 ?_
  refine n_iadd hC dX2_takeFixed_118 ?_
  refine n_callVi (As := [.int ((M22.1 a0 0) + (28 : Int32))]) (rest := [.ref (b + a0)]) h1 rfl (by decide) hC (c_X3_number2 l M22 a1 ((M22.1 a0 0) + (28 : Int32)) h1) my_X3_number2 ml_X2_71 rfl rfl rfl (Nat.le_of_ble_eq_true rfl) ⟨by decide, by decide⟩ dX2_takeFixed_119 (fun r23 M24 => ?_)
  refine n_putI hC clX2 h0 6 (by decide) rfl rfl rfl fl_X2_30 dX2_takeFixed_122 (fun M25 => ?_)
  refine n_aload_n hC 0 rfl dX2_takeFixed_125 ?_
  refine n_aload_n hC 1 rfl dX2_takeFixed_126 ?_
  refine n_aload_n hC 0 rfl dX2_takeFixed_127 ?_
  refine n_get hC clX2 h0 0 (.int (M25.1 a0 0)) (by decide) rfl fl_X2_9 rfl dX2_takeFixed_128 ?_
  refine n_bipush hC (30 : Int32) (by decide) dX2_takeFixed_131 ?_
  refine n_iadd hC dX2_takeFixed_133 ?_
  refine n_callVi (As := [.int ((M25.1 a0 0) + (30 : Int32))]) (rest := [.ref (b + a0)]) h1 rfl (by decide) hC (c_X3_number2 l M25 a1 ((M25.1 a0 0) + (30 : Int32)) h1) my_X3_number2 ml_X2_71 rfl rfl rfl (Nat.le_of_ble_eq_true rfl) ⟨by decide, by decide⟩ dX2_takeFixed_134 (fun r26 M27 => ?_)
  refine n_putI hC clX2 h0 7 (by decide) rfl rfl rfl fl_X2_33 dX2_takeFixed_137 (fun M28 => ?_)
  refine n_aload_n hC 0 rfl dX2_takeFixed_140 ?_
  refine n_aload_n hC 1 rfl dX2_takeFixed_141 ?_
  refine n_aload_n hC 0 rfl dX2_takeFixed_142 ?_
  refine n_get hC clX2 h0 0 (.int (M28.1 a0 0)) (by decide) rfl fl_X2_9 rfl dX2_takeFixed_143 ?_
  refine n_bipush hC (38 : Int32) (by decide) dX2_takeFixed_146 ?_
  refine n_iadd hC dX2_takeFixed_148 ?_
  refine n_callVl (As := [.int ((M28.1 a0 0) + (38 : Int32))]) (rest := [.ref (b + a0)]) h1 rfl (by decide) hC (c_X3_number4 l M28 a1 ((M28.1 a0 0) + (38 : Int32)) h1) my_X3_number4 ml_X2_77 rfl rfl rfl (Nat.le_of_ble_eq_true rfl) ⟨by decide, by decide⟩ dX2_takeFixed_149 (fun r29 M30 => ?_)
  refine n_l2i hC dX2_takeFixed_152 ?_
  refine n_putI hC clX2 h0 5 (by decide) rfl rfl rfl fl_X2_27 dX2_takeFixed_153 (fun M31 => ?_)
  refine n_aload_n hC 0 rfl dX2_takeFixed_156 ?_
  refine n_aload_n hC 1 rfl dX2_takeFixed_157 ?_
  refine n_aload_n hC 0 rfl dX2_takeFixed_158 ?_
  refine n_get hC clX2 h0 0 (.int (M31.1 a0 0)) (by decide) rfl fl_X2_9 rfl dX2_takeFixed_159 ?_
  refine n_bipush hC (42 : Int32) (by decide) dX2_takeFixed_162 ?_
  refine n_iadd hC dX2_takeFixed_164 ?_
  refine n_callVl (As := [.int ((M31.1 a0 0) + (42 : Int32))]) (rest := [.ref (b + a0)]) h1 rfl (by decide) hC (c_X3_number4 l M31 a1 ((M31.1 a0 0) + (42 : Int32)) h1) my_X3_number4 ml_X2_77 rfl rfl rfl (Nat.le_of_ble_eq_true rfl) ⟨by decide, by decide⟩ dX2_takeFixed_165 (fun r32 M33 => ?_)
  refine n_putL hC clX2 h0 17 (by decide) rfl rfl rfl fl_X2_65 dX2_takeFixed_168 (fun M34 => ?_)
  refine n_aload_n hC 0 rfl dX2_takeFixed_171 ?_
  refine n_aload_n hC 0 rfl dX2_takeFixed_172 ?_
  refine n_get hC clX2 h0 6 (.int (M34.1 a0 6)) (by decide) rfl fl_X2_30 rfl dX2_takeFixed_173 ?_
  refine n_if_le hC 203 dX2_takeFixed_176 (by decide) ?_ ?_
  · refine n_iconst hC (0 : Int32) (by decide) dX2_takeFixed_203 ?_
    refine n_putZ hC clX2 h0 11 (by decide) rfl rfl rfl fl_X2_46 dX2_takeFixed_204 (fun M35 => ?_)
    exact n_vret hC dX2_takeFixed_207
  refine n_aload_n hC 1 rfl dX2_takeFixed_179 ?_
  refine n_aload_n hC 0 rfl dX2_takeFixed_180 ?_
  refine n_callVi (As := []) (rest := [.ref (b + a1), .ref (b + a0)]) h0 rfl (by decide) hC (c_X2_namePlace l M34 a0 h0) my_X2_namePlace ml_X2_81 rfl rfl rfl (Nat.le_of_ble_eq_true rfl) ⟨by decide, by decide⟩ dX2_takeFixed_181 (fun r36 M37 => ?_)
  refine n_aload_n hC 0 rfl dX2_takeFixed_184 ?_
  refine n_get hC clX2 h0 6 (.int (M37.1 a0 6)) (by decide) rfl fl_X2_30 rfl dX2_takeFixed_185 ?_
  refine n_iadd hC dX2_takeFixed_188 ?_
  refine n_iconst hC (1 : Int32) (by decide) dX2_takeFixed_189 ?_
  refine n_isub hC dX2_takeFixed_190 ?_
  refine n_callVi (As := [.int ((r36 + (M37.1 a0 6)) - (1 : Int32))]) (rest := [.ref (b + a0)]) h1 rfl (by decide) hC (c_X3_number1 l M37 a1 ((r36 + (M37.1 a0 6)) - (1 : Int32)) h1) my_X3_number1 ml_X2_85 rfl rfl rfl (Nat.le_of_ble_eq_true rfl) ⟨by decide, by decide⟩ dX2_takeFixed_191 (fun r38 M39 => ?_)
  refine n_bipush hC (47 : Int32) (by decide) dX2_takeFixed_194 ?_
  refine n_icmp_ne hC 203 dX2_takeFixed_196 (by decide) ?_ ?_
  · refine n_iconst hC (0 : Int32) (by decide) dX2_takeFixed_203 ?_
    refine n_putZ hC clX2 h0 11 (by decide) rfl rfl rfl fl_X2_46 dX2_takeFixed_204 (fun M40 => ?_)
    exact n_vret hC dX2_takeFixed_207
  refine n_iconst hC (1 : Int32) (by decide) dX2_takeFixed_199 ?_
  refine n_goto hC (tgt := 204) (by decide) dX2_takeFixed_200 ?_
  refine n_putZ hC clX2 h0 11 (by decide) rfl rfl rfl fl_X2_46 dX2_takeFixed_204 (fun M41 => ?_)
  exact n_vret hC dX2_takeFixed_207
