def j_X5_putFields_198 (a0 : Nat) (x1 : Int32) (s0 : Int64) (s1 : Nat) (M : Me) : Option (Unit × Me) := cal (f_X5_put M s1 s0 (4 : Int32)) (fun _ M28 => chk x1 (ln (rf a0 6)) (cal (f_X5_put M28 a0 (((M28.1 (rf a0 6) x1.toNatClampNeg)).toInt64) (2 : Int32)) (fun _ M31 => cal (f_X5_extraLong M31 a0 x1) (fun r32 M33 => cal (f_X5_put M33 a0 r32.toInt64 (2 : Int32)) (fun _ M35 => some ((), M35))))))
set_option maxHeartbeats 4000000 in
set_option maxRecDepth 100000 in
theorem b_X5_putFields_198 {p : Program} {l : Launch} {e : Env} {s : State} {m : MethodId} {args : Array Value} {below : List Frame} {meth : Method} {c : Code} {D : va_G} {T : Nat → ClassId} {b : Nat} (hC : CX p s m args meth c cX5_putFields 4 RX5 none D T) (a0 : Nat) (x1 : Int32) (s0 : Int64) (s1 : Nat) (h0 : kd a0 = 5) (hs1 : kd s1 = 5) (M : Me) : GN p l e (k2_rm 2 46) s m args below meth c D T b 4 eV 198 [(0, .ref (b + a0)), (1, .int x1)] [.long s0, .ref (b + s1)] M (j_X5_putFields_198 a0 x1 s0 s1 M) := by
  unfold j_X5_putFields_198
  refine n_iconst hC (4 : Int32) (by decide) dX5_putFields_198 ?_
  refine n_callVv (As := [.long s0, .int (4 : Int32)]) (rest := []) hs1 rfl (by decide) hC (c_X5_put l M s1 s0 (4 : Int32) hs1) my_X5_put ml_X5_131 rfl rfl rfl (Nat.le_of_ble_eq_true rfl) ⟨by decide, by decide⟩ dX5_putFields_199 (fun r27 M28 => ?_)
  refine n_aload_n hC 0 rfl dX5_putFields_202 ?_
  refine n_aload_n hC 0 rfl dX5_putFields_203 ?_
  refine n_get hC clX5 h0 6 (.ref (b + (rf a0 6))) (by decide) rfl fl_X5_23 rfl dX5_putFields_204 ?_
  refine n_iload_n hC 1 rfl dX5_putFields_207 ?_
  refine n_iald hC (kf_X5_6 h0) dX5_putFields_208 (fun g29 => ?_)
  refine n_i2l hC dX5_putFields_209 ?_
  refine n_iconst hC (2 : Int32) (by decide) dX5_putFields_210 ?_
  refine n_callVv (As := [.long ((M28.1 (rf a0 6) x1.toNatClampNeg)).toInt64, .int (2 : Int32)]) (rest := []) h0 rfl (by decide) hC (c_X5_put l M28 a0 (((M28.1 (rf a0 6) x1.toNatClampNeg)).toInt64) (2 : Int32) h0) my_X5_put ml_X5_131 rfl rfl rfl (Nat.le_of_ble_eq_true rfl) ⟨by decide, by decide⟩ dX5_putFields_211 (fun r30 M31 => ?_)
  refine n_aload_n hC 0 rfl dX5_putFields_214 ?_
  refine n_aload_n hC 0 rfl dX5_putFields_215 ?_
  refine n_iload_n hC 1 rfl dX5_putFields_216 ?_
  refine n_callVi (As := [.int x1]) (rest := [.ref (b + a0)]) h0 rfl (by decide) hC (c_X5_extraLong l M31 a0 x1 h0) my_X5_extraLong ml_X5_149 rfl rfl rfl (Nat.le_of_ble_eq_true rfl) ⟨by decide, by decide⟩ dX5_putFields_217 (fun r32 M33 => ?_)
  refine n_i2l hC dX5_putFields_220 ?_
  refine n_iconst hC (2 : Int32) (by decide) dX5_putFields_221 ?_
  refine n_callVv (As := [.long r32.toInt64, .int (2 : Int32)]) (rest := []) h0 rfl (by decide) hC (c_X5_put l M33 a0 r32.toInt64 (2 : Int32) h0) my_X5_put ml_X5_131 rfl rfl rfl (Nat.le_of_ble_eq_true rfl) ⟨by decide, by decide⟩ dX5_putFields_222 (fun r34 M35 => ?_)
  exact n_vret hC dX5_putFields_225
def j_X5_putFields_163 (a0 : Nat) (x1 : Int32) (x3 : Int32) (s0 : Int64) (s1 : Nat) (M : Me) : Option (Unit × Me) := cal (f_X5_put M s1 s0 (4 : Int32)) (fun _ M23 => if x3 = (0 : Int32) then chk x1 (ln (rf a0 4)) (if (M23.1 (rf a0 4) x1.toNatClampNeg) = (2 : Int32) then j_X5_putFields_198 a0 x1 (4294967295 : Int64) a0 M23 else cal (f_X5_trueSize M23 a0 x1) (fun r25 M26 => j_X5_putFields_198 a0 x1 r25.toInt64 a0 M26)) else j_X5_putFields_198 a0 x1 (0 : Int64) a0 M23)
set_option maxHeartbeats 4000000 in
set_option maxRecDepth 100000 in
theorem b_X5_putFields_163 {p : Program} {l : Launch} {e : Env} {s : State} {m : MethodId} {args : Array Value} {below : List Frame} {meth : Method} {c : Code} {D : va_G} {T : Nat → ClassId} {b : Nat} (hC : CX p s m args meth c cX5_putFields 4 RX5 none D T) (a0 : Nat) (x1 : Int32) (x3 : Int32) (s0 : Int64) (s1 : Nat) (h0 : kd a0 = 5) (hs1 : kd s1 = 5) (M : Me) : GN p l e (k2_rm 2 46) s m args below meth c D T b 4 eV 163 [(0, .ref (b + a0)), (1, .int x1), (3, .int x3)] [.long s0, .ref (b + s1)] M (j_X5_putFields_163 a0 x1 x3 s0 s1 M) := by
  unfold j_X5_putFields_163
  refine n_iconst hC (4 : Int32) (by decide) dX5_putFields_163 ?_
  refine n_callVv (As := [.long s0, .int (4 : Int32)]) (rest := []) hs1 rfl (by decide) hC (c_X5_put l M s1 s0 (4 : Int32) hs1) my_X5_put ml_X5_131 rfl rfl rfl (Nat.le_of_ble_eq_true rfl) ⟨by decide, by decide⟩ dX5_putFields_164 (fun r22 M23 => ?_)
  refine n_aload_n hC 0 rfl dX5_putFields_167 ?_
  refine n_iload_n hC 2 rfl dX5_putFields_168 ?_
  refine n_if_eq hC 176 dX5_putFields_169 (by decide) ?_ ?_
  · refine n_aload_n hC 0 rfl dX5_putFields_176 ?_
    refine n_get hC clX5 h0 4 (.ref (b + (rf a0 4))) (by decide) rfl fl_X5_75 rfl dX5_putFields_177 ?_
    refine n_iload_n hC 1 rfl dX5_putFields_180 ?_
    refine n_iald hC (kf_X5_4 h0) dX5_putFields_181 (fun g24 => ?_)
    refine n_iconst hC (2 : Int32) (by decide) dX5_putFields_182 ?_
    refine n_icmp_ne hC 192 dX5_putFields_183 (by decide) ?_ ?_
    · refine n_aload_n hC 0 rfl dX5_putFields_192 ?_
      refine n_iload_n hC 1 rfl dX5_putFields_193 ?_
      refine n_callVi (As := [.int x1]) (rest := [.ref (b + a0)]) h0 rfl (by decide) hC (c_X5_trueSize l M23 a0 x1 h0) my_X5_trueSize ml_X5_137 rfl rfl rfl (Nat.le_of_ble_eq_true rfl) ⟨by decide, by decide⟩ dX5_putFields_194 (fun r25 M26 => ?_)
      refine n_i2l hC dX5_putFields_197 ?_
      exact GN.sub [0, 1] rfl (b_X5_putFields_198 hC a0 x1 r25.toInt64 a0 h0 h0 M26)
    refine n_ldc2 hC (4294967295 : Int64) kc_X5_147 dX5_putFields_186 ?_
    refine n_goto hC (tgt := 198) (by decide) dX5_putFields_189 ?_
    exact GN.sub [0, 1] rfl (b_X5_putFields_198 hC a0 x1 (4294967295 : Int64) a0 h0 h0 M23)
  refine n_lconst hC (0 : Int64) (by decide) dX5_putFields_172 ?_
  refine n_goto hC (tgt := 198) (by decide) dX5_putFields_173 ?_
  exact GN.sub [0, 1] rfl (b_X5_putFields_198 hC a0 x1 (0 : Int64) a0 h0 h0 M23)
def j_X5_putFields_127 (a0 : Nat) (x1 : Int32) (x3 : Int32) (s0 : Int64) (s1 : Nat) (M : Me) : Option (Unit × Me) := cal (f_X5_put M s1 s0 (4 : Int32)) (fun _ M19 => if x3 = (0 : Int32) then chk x1 (ln (rf a0 4)) (if (M19.1 (rf a0 4) x1.toNatClampNeg) = (2 : Int32) then j_X5_putFields_163 a0 x1 x3 (4294967295 : Int64) a0 M19 else chk x1 (ln (rf a0 15)) (j_X5_putFields_163 a0 x1 x3 (((M19.1 (rf a0 15) x1.toNatClampNeg)).toInt64) a0 M19)) else j_X5_putFields_163 a0 x1 x3 (0 : Int64) a0 M19)
set_option maxHeartbeats 4000000 in
set_option maxRecDepth 100000 in
theorem b_X5_putFields_127 {p : Program} {l : Launch} {e : Env} {s : State} {m : MethodId} {args : Array Value} {below : List Frame} {meth : Method} {c : Code} {D : va_G} {T : Nat → ClassId} {b : Nat} (hC : CX p s m args meth c cX5_putFields 4 RX5 none D T) (a0 : Nat) (x1 : Int32) (x3 : Int32) (s0 : Int64) (s1 : Nat) (h0 : kd a0 = 5) (hs1 : kd s1 = 5) (M : Me) : GN p l e (k2_rm 2 46) s m args below meth c D T b 4 eV 127 [(0, .ref (b + a0)), (1, .int x1), (3, .int x3)] [.long s0, .ref (b + s1)] M (j_X5_putFields_127 a0 x1 x3 s0 s1 M) := by
  unfold j_X5_putFields_127
  refine n_iconst hC (4 : Int32) (by decide) dX5_putFields_127 ?_
  refine n_callVv (As := [.long s0, .int (4 : Int32)]) (rest := []) hs1 rfl (by decide) hC (c_X5_put l M s1 s0 (4 : Int32) hs1) my_X5_put ml_X5_131 rfl rfl rfl (Nat.le_of_ble_eq_true rfl) ⟨by decide, by decide⟩ dX5_putFields_128 (fun r18 M19 => ?_)
  refine n_aload_n hC 0 rfl dX5_putFields_131 ?_
  refine n_iload_n hC 2 rfl dX5_putFields_132 ?_
  refine n_if_eq hC 140 dX5_putFields_133 (by decide) ?_ ?_
  · refine n_aload_n hC 0 rfl dX5_putFields_140 ?_
    refine n_get hC clX5 h0 4 (.ref (b + (rf a0 4))) (by decide) rfl fl_X5_75 rfl dX5_putFields_141 ?_
    refine n_iload_n hC 1 rfl dX5_putFields_144 ?_
    refine n_iald hC (kf_X5_4 h0) dX5_putFields_145 (fun g20 => ?_)
    refine n_iconst hC (2 : Int32) (by decide) dX5_putFields_146 ?_
    refine n_icmp_ne hC 156 dX5_putFields_147 (by decide) ?_ ?_
    · refine n_aload_n hC 0 rfl dX5_putFields_156 ?_
      refine n_get hC clX5 h0 15 (.ref (b + (rf a0 15))) (by decide) rfl fl_X5_43 rfl dX5_putFields_157 ?_
      refine n_iload_n hC 1 rfl dX5_putFields_160 ?_
      refine n_iald hC (kf_X5_15 h0) dX5_putFields_161 (fun g21 => ?_)
      refine n_i2l hC dX5_putFields_162 ?_
      exact GN.sub [0, 1, 2] rfl (b_X5_putFields_163 hC a0 x1 x3 (((M19.1 (rf a0 15) x1.toNatClampNeg)).toInt64) a0 h0 h0 M19)
    refine n_ldc2 hC (4294967295 : Int64) kc_X5_147 dX5_putFields_150 ?_
    refine n_goto hC (tgt := 163) (by decide) dX5_putFields_153 ?_
    exact GN.sub [0, 1, 2] rfl (b_X5_putFields_163 hC a0 x1 x3 (4294967295 : Int64) a0 h0 h0 M19)
  refine n_lconst hC (0 : Int64) (by decide) dX5_putFields_136 ?_
  refine n_goto hC (tgt := 163) (by decide) dX5_putFields_137 ?_
  exact GN.sub [0, 1, 2] rfl (b_X5_putFields_163 hC a0 x1 x3 (0 : Int64) a0 h0 h0 M19)
def j_X5_putFields_84 (a0 : Nat) (x1 : Int32) (x3 : Int32) (s0 : Int64) (s1 : Nat) (M : Me) : Option (Unit × Me) := cal (f_X5_put M s1 s0 (2 : Int32)) (fun _ M9 => chk x1 (ln (rf a0 7)) (cal (f_X5_put M9 a0 (((M9.1 (rf a0 7) x1.toNatClampNeg)).toInt64) (2 : Int32)) (fun _ M12 => chk x1 (ln (rf a0 8)) (cal (f_X5_put M12 a0 (((M12.1 (rf a0 8) x1.toNatClampNeg)).toInt64) (2 : Int32)) (fun _ M15 => if x3 = (0 : Int32) then cal (f_X5_sum M15 a0 x1) (fun r16 M17 => j_X5_putFields_127 a0 x1 x3 r16.toInt64 a0 M17) else j_X5_putFields_127 a0 x1 x3 (0 : Int64) a0 M15)))))
set_option maxHeartbeats 4000000 in
set_option maxRecDepth 100000 in
theorem b_X5_putFields_84 {p : Program} {l : Launch} {e : Env} {s : State} {m : MethodId} {args : Array Value} {below : List Frame} {meth : Method} {c : Code} {D : va_G} {T : Nat → ClassId} {b : Nat} (hC : CX p s m args meth c cX5_putFields 4 RX5 none D T) (a0 : Nat) (x1 : Int32) (x3 : Int32) (s0 : Int64) (s1 : Nat) (h0 : kd a0 = 5) (hs1 : kd s1 = 5) (M : Me) : GN p l e (k2_rm 2 46) s m args below meth c D T b 4 eV 84 [(0, .ref (b + a0)), (1, .int x1), (3, .int x3)] [.long s0, .ref (b + s1)] M (j_X5_putFields_84 a0 x1 x3 s0 s1 M) := by
  unfold j_X5_putFields_84
  refine n_iconst hC (2 : Int32) (by decide) dX5_putFields_84 ?_
  refine n_callVv (As := [.long s0, .int (2 : Int32)]) (rest := []) hs1 rfl (by decide) hC (c_X5_put l M s1 s0 (2 : Int32) hs1) my_X5_put ml_X5_131 rfl rfl rfl (Nat.le_of_ble_eq_true rfl) ⟨by decide, by decide⟩ dX5_putFields_85 (fun r8 M9 => ?_)
  refine n_aload_n hC 0 rfl dX5_putFields_88 ?_
  refine n_aload_n hC 0 rfl dX5_putFields_89 ?_
  refine n_get hC clX5 h0 7 (.ref (b + (rf a0 7))) (by decide) rfl fl_X5_27 rfl dX5_putFields_90 ?_
  refine n_iload_n hC 1 rfl dX5_putFields_93 ?_
  refine n_iald hC (kf_X5_7 h0) dX5_putFields_94 (fun g10 => ?_)
  refine n_i2l hC dX5_putFields_95 ?_
  refine n_iconst hC (2 : Int32) (by decide) dX5_putFields_96 ?_
  refine n_callVv (As := [.long ((M9.1 (rf a0 7) x1.toNatClampNeg)).toInt64, .int (2 : Int32)]) (rest := []) h0 rfl (by decide) hC (c_X5_put l M9 a0 (((M9.1 (rf a0 7) x1.toNatClampNeg)).toInt64) (2 : Int32) h0) my_X5_put ml_X5_131 rfl rfl rfl (Nat.le_of_ble_eq_true rfl) ⟨by decide, by decide⟩ dX5_putFields_97 (fun r11 M12 => ?_)
  refine n_aload_n hC 0 rfl dX5_putFields_100 ?_
  refine n_aload_n hC 0 rfl dX5_putFields_101 ?_
  refine n_get hC clX5 h0 8 (.ref (b + (rf a0 8))) (by decide) rfl fl_X5_30 rfl dX5_putFields_102 ?_
  refine n_iload_n hC 1 rfl dX5_putFields_105 ?_
  refine n_iald hC (kf_X5_8 h0) dX5_putFields_106 (fun g13 => ?_)
  refine n_i2l hC dX5_putFields_107 ?_
  refine n_iconst hC (2 : Int32) (by decide) dX5_putFields_108 ?_
  refine n_callVv (As := [.long ((M12.1 (rf a0 8) x1.toNatClampNeg)).toInt64, .int (2 : Int32)]) (rest := []) h0 rfl (by decide) hC (c_X5_put l M12 a0 (((M12.1 (rf a0 8) x1.toNatClampNeg)).toInt64) (2 : Int32) h0) my_X5_put ml_X5_131 rfl rfl rfl (Nat.le_of_ble_eq_true rfl) ⟨by decide, by decide⟩ dX5_putFields_109 (fun r14 M15 => ?_)
  refine n_aload_n hC 0 rfl dX5_putFields_112 ?_
  refine n_iload_n hC 2 rfl dX5_putFields_113 ?_
  refine n_if_eq hC 121 dX5_putFields_114 (by decide) ?_ ?_
  · refine n_aload_n hC 0 rfl dX5_putFields_121 ?_
    refine n_iload_n hC 1 rfl dX5_putFields_122 ?_
    refine n_callVi (As := [.int x1]) (rest := [.ref (b + a0)]) h0 rfl (by decide) hC (c_X5_sum l M15 a0 x1 h0) my_X5_sum ml_X5_144 rfl rfl rfl (Nat.le_of_ble_eq_true rfl) ⟨by decide, by decide⟩ dX5_putFields_123 (fun r16 M17 => ?_)
    refine n_i2l hC dX5_putFields_126 ?_
    exact GN.sub [0, 1, 2] rfl (b_X5_putFields_127 hC a0 x1 x3 r16.toInt64 a0 h0 h0 M17)
  refine n_lconst hC (0 : Int64) (by decide) dX5_putFields_117 ?_
  refine n_goto hC (tgt := 127) (by decide) dX5_putFields_118 ?_
  exact GN.sub [0, 1, 2] rfl (b_X5_putFields_127 hC a0 x1 x3 (0 : Int64) a0 h0 h0 M15)
def j_X5_putFields_62 (a0 : Nat) (x1 : Int32) (x3 : Int32) (s0 : Int64) (s1 : Nat) (M : Me) : Option (Unit × Me) := cal (f_X5_put M s1 s0 (2 : Int32)) (fun _ M6 => chk x1 (ln (rf a0 3)) (if (M6.1 (rf a0 3) x1.toNatClampNeg) = (1 : Int32) then j_X5_putFields_84 a0 x1 x3 (8 : Int64) a0 M6 else j_X5_putFields_84 a0 x1 x3 (0 : Int64) a0 M6))
set_option maxHeartbeats 4000000 in
set_option maxRecDepth 100000 in
theorem b_X5_putFields_62 {p : Program} {l : Launch} {e : Env} {s : State} {m : MethodId} {args : Array Value} {below : List Frame} {meth : Method} {c : Code} {D : va_G} {T : Nat → ClassId} {b : Nat} (hC : CX p s m args meth c cX5_putFields 4 RX5 none D T) (a0 : Nat) (x1 : Int32) (x3 : Int32) (s0 : Int64) (s1 : Nat) (h0 : kd a0 = 5) (hs1 : kd s1 = 5) (M : Me) : GN p l e (k2_rm 2 46) s m args below meth c D T b 4 eV 62 [(0, .ref (b + a0)), (1, .int x1), (3, .int x3)] [.long s0, .ref (b + s1)] M (j_X5_putFields_62 a0 x1 x3 s0 s1 M) := by
  unfold j_X5_putFields_62
  refine n_iconst hC (2 : Int32) (by decide) dX5_putFields_62 ?_
  refine n_callVv (As := [.long s0, .int (2 : Int32)]) (rest := []) hs1 rfl (by decide) hC (c_X5_put l M s1 s0 (2 : Int32) hs1) my_X5_put ml_X5_131 rfl rfl rfl (Nat.le_of_ble_eq_true rfl) ⟨by decide, by decide⟩ dX5_putFields_63 (fun r5 M6 => ?_)
  refine n_aload_n hC 0 rfl dX5_putFields_66 ?_
  refine n_aload_n hC 0 rfl dX5_putFields_67 ?_
  refine n_get hC clX5 h0 3 (.ref (b + (rf a0 3))) (by decide) rfl fl_X5_72 rfl dX5_putFields_68 ?_
  refine n_iload_n hC 1 rfl dX5_putFields_71 ?_
  refine n_iald hC (kf_X5_3 h0) dX5_putFields_72 (fun g7 => ?_)
  refine n_iconst hC (1 : Int32) (by decide) dX5_putFields_73 ?_
  refine n_icmp_ne hC 83 dX5_putFields_74 (by decide) ?_ ?_
  · refine n_lconst hC (0 : Int64) (by decide) dX5_putFields_83 ?_
    exact GN.sub [0, 1, 2] rfl (b_X5_putFields_84 hC a0 x1 x3 (0 : Int64) a0 h0 h0 M6)
  refine n_ldc2 hC (8 : Int64) kc_X5_60 dX5_putFields_77 ?_
  refine n_goto hC (tgt := 84) (by decide) dX5_putFields_80 ?_
  exact GN.sub [0, 1, 2] rfl (b_X5_putFields_84 hC a0 x1 x3 (8 : Int64) a0 h0 h0 M6)
def j_X5_putFields_40 (a0 : Nat) (x1 : Int32) (x3 : Int32) (s0 : Int64) (s1 : Nat) (M : Me) : Option (Unit × Me) := cal (f_X5_put M s1 s0 (2 : Int32)) (fun _ M3 => chk x1 (ln (rf a0 4)) (if (M3.1 (rf a0 4) x1.toNatClampNeg) = (1 : Int32) then j_X5_putFields_62 a0 x1 x3 (8 : Int64) a0 M3 else j_X5_putFields_62 a0 x1 x3 (0 : Int64) a0 M3))
set_option maxHeartbeats 4000000 in
set_option maxRecDepth 100000 in
theorem b_X5_putFields_40 {p : Program} {l : Launch} {e : Env} {s : State} {m : MethodId} {args : Array Value} {below : List Frame} {meth : Method} {c : Code} {D : va_G} {T : Nat → ClassId} {b : Nat} (hC : CX p s m args meth c cX5_putFields 4 RX5 none D T) (a0 : Nat) (x1 : Int32) (x3 : Int32) (s0 : Int64) (s1 : Nat) (h0 : kd a0 = 5) (hs1 : kd s1 = 5) (M : Me) : GN p l e (k2_rm 2 46) s m args below meth c D T b 4 eV 40 [(0, .ref (b + a0)), (1, .int x1), (3, .int x3)] [.long s0, .ref (b + s1)] M (j_X5_putFields_40 a0 x1 x3 s0 s1 M) := by
  unfold j_X5_putFields_40
  refine n_iconst hC (2 : Int32) (by decide) dX5_putFields_40 ?_
  refine n_callVv (As := [.long s0, .int (2 : Int32)]) (rest := []) hs1 rfl (by decide) hC (c_X5_put l M s1 s0 (2 : Int32) hs1) my_X5_put ml_X5_131 rfl rfl rfl (Nat.le_of_ble_eq_true rfl) ⟨by decide, by decide⟩ dX5_putFields_41 (fun r2 M3 => ?_)
  refine n_aload_n hC 0 rfl dX5_putFields_44 ?_
  refine n_aload_n hC 0 rfl dX5_putFields_45 ?_
  refine n_get hC clX5 h0 4 (.ref (b + (rf a0 4))) (by decide) rfl fl_X5_75 rfl dX5_putFields_46 ?_
  refine n_iload_n hC 1 rfl dX5_putFields_49 ?_
  refine n_iald hC (kf_X5_4 h0) dX5_putFields_50 (fun g4 => ?_)
  refine n_iconst hC (1 : Int32) (by decide) dX5_putFields_51 ?_
  refine n_icmp_ne hC 61 dX5_putFields_52 (by decide) ?_ ?_
  · refine n_lconst hC (0 : Int64) (by decide) dX5_putFields_61 ?_
    exact GN.sub [0, 1, 2] rfl (b_X5_putFields_62 hC a0 x1 x3 (0 : Int64) a0 h0 h0 M3)
  refine n_ldc2 hC (8 : Int64) kc_X5_60 dX5_putFields_55 ?_
  refine n_goto hC (tgt := 62) (by decide) dX5_putFields_58 ?_
  exact GN.sub [0, 1, 2] rfl (b_X5_putFields_62 hC a0 x1 x3 (8 : Int64) a0 h0 h0 M3)
def j_X5_putFields_19 (a0 : Nat) (x1 : Int32) (s0 : Int32) (M : Me) : Option (Unit × Me) := chk x1 (ln (rf a0 4)) (if (M.1 (rf a0 4) x1.toNatClampNeg) = (2 : Int32) then j_X5_putFields_40 a0 x1 s0 (45 : Int64) a0 M else j_X5_putFields_40 a0 x1 s0 (20 : Int64) a0 M)
set_option maxHeartbeats 4000000 in
set_option maxRecDepth 100000 in
theorem b_X5_putFields_19 {p : Program} {l : Launch} {e : Env} {s : State} {m : MethodId} {args : Array Value} {below : List Frame} {meth : Method} {c : Code} {D : va_G} {T : Nat → ClassId} {b : Nat} (hC : CX p s m args meth c cX5_putFields 4 RX5 none D T) (a0 : Nat) (x1 : Int32) (s0 : Int32) (h0 : kd a0 = 5) (M : Me) : GN p l e (k2_rm 2 46) s m args below meth c D T b 4 eV 19 [(0, .ref (b + a0)), (1, .int x1)] [.int s0] M (j_X5_putFields_19 a0 x1 s0 M) := by
  unfold j_X5_putFields_19
  refine n_istore_n hC rfl [(3, .int s0), (0, .ref (b + a0)), (1, .int x1)] (by decide) rfl dX5_putFields_19 ?_
  refine n_aload_n hC 1 rfl dX5_putFields_20 ?_
  refine n_aload_n hC 1 rfl dX5_putFields_21 ?_
  refine n_get hC clX5 h0 4 (.ref (b + (rf a0 4))) (by decide) rfl fl_X5_75 rfl dX5_putFields_22 ?_
  refine n_iload_n hC 2 rfl dX5_putFields_25 ?_
  refine n_iald hC (kf_X5_4 h0) dX5_putFields_26 (fun g1 => ?_)
  refine n_iconst hC (2 : Int32) (by decide) dX5_putFields_27 ?_
  refine n_icmp_ne hC 37 dX5_putFields_28 (by decide) ?_ ?_
  · refine n_ldc2 hC (20 : Int64) kc_X5_142 dX5_putFields_37 ?_
    exact GN.sub [1, 2, 0] rfl (b_X5_putFields_40 hC a0 x1 s0 (20 : Int64) a0 h0 h0 M)
  refine n_ldc2 hC (45 : Int64) kc_X5_140 dX5_putFields_31 ?_
  refine n_goto hC (tgt := 40) (by decide) dX5_putFields_34 ?_
  exact GN.sub [1, 2, 0] rfl (b_X5_putFields_40 hC a0 x1 s0 (45 : Int64) a0 h0 h0 M)
def j_X5_putFields_18 (a0 : Nat) (x1 : Int32) (M : Me) : Option (Unit × Me) := j_X5_putFields_19 a0 x1 (0 : Int32) M
set_option maxHeartbeats 4000000 in
set_option maxRecDepth 100000 in
theorem b_X5_putFields_18 {p : Program} {l : Launch} {e : Env} {s : State} {m : MethodId} {args : Array Value} {below : List Frame} {meth : Method} {c : Code} {D : va_G} {T : Nat → ClassId} {b : Nat} (hC : CX p s m args meth c cX5_putFields 4 RX5 none D T) (a0 : Nat) (x1 : Int32) (h0 : kd a0 = 5) (M : Me) : GN p l e (k2_rm 2 46) s m args below meth c D T b 4 eV 18 [(0, .ref (b + a0)), (1, .int x1)] [] M (j_X5_putFields_18 a0 x1 M) := by
  unfold j_X5_putFields_18
  refine n_iconst hC (0 : Int32) (by decide) dX5_putFields_18 ?_
  exact GN.sub [0, 1] rfl (b_X5_putFields_19 hC a0 x1 (0 : Int32) h0 M)
def f_X5_putFields (M : Me) (a0 : Nat) (x1 : Int32) (x2 : Int32) : Option (Unit × Me) := if x2 = (0 : Int32) then j_X5_putFields_18 a0 x1 M else chk x1 (ln (rf a0 4)) (if (M.1 (rf a0 4) x1.toNatClampNeg) = (1 : Int32) then j_X5_putFields_19 a0 x1 (1 : Int32) M else j_X5_putFields_18 a0 x1 M)
set_option maxHeartbeats 4000000 in
set_option maxRecDepth 100000 in
theorem c_X5_putFields (l : Launch) (M : Me) (a0 : Nat) (x1 : Int32) (x2 : Int32) (h0 : kd a0 = 5) : CN l yX5_putFields cX5_putFields 4 none (k2_rm 2 46) eV (fun b => [.ref (b + a0), .int x1, .int x2]) M (f_X5_putFields M a0 x1 x2) := by
  refine CN.of RX5 (fun b => [(0, .ref (b + a0)), (1, .int x1), (2, .int x2)]) (by decide) rfl (fun b => Nat.le_of_ble_eq_true rfl) (fun b => rfl) ?_
  intro p e s m args below meth c D T b hC
  unfold f_X5_putFields
  refine n_iload_n hC 2 rfl dX5_putFields_0 ?_
  refine n_if_eq hC 18 dX5_putFields_1 (by decide) ?_ ?_
  · exact GN.sub [0, 1] rfl (b_X5_putFields_18 hC a0 x1 h0 M)
  refine n_aload_n hC 0 rfl dX5_putFields_4 ?_
  refine n_get hC clX5 h0 4 (.ref (b + (rf a0 4))) (by decide) rfl fl_X5_75 rfl dX5_putFields_5 ?_
  refine n_iload_n hC 1 rfl dX5_putFields_8 ?_
  refine n_iald hC (kf_X5_4 h0) dX5_putFields_9 (fun g36 => ?_)
  refine n_iconst hC (1 : Int32) (by decide) dX5_putFields_10 ?_
  refine n_icmp_ne hC 18 dX5_putFields_11 (by decide) ?_ ?_
  · exact GN.sub [0, 1] rfl (b_X5_putFields_18 hC a0 x1 h0 M)
  refine n_iconst hC (1 : Int32) (by decide) dX5_putFields_14 ?_
  refine n_goto hC (tgt := 19) (by decide) dX5_putFields_15 ?_
  exact GN.sub [0, 1] rfl (b_X5_putFields_19 hC a0 x1 (1 : Int32) h0 M)
def g_X5_putLocal_21 (kx : Int32 → Me → Option (Unit × Me)) (kb : Int32 × Me → Option (Unit × Me)) (a0 : Nat) (x1 : Int32) (x2 : Int32) (M : Me) : Option (Unit × Me) := chk x1 (ln (rf a0 15)) (if (M.1 (rf a0 15) x1.toNatClampNeg) ≤ x2 then kx x2 M else chk (((40 : Int32) * x1) + x2) (ln (rf a0 16)) (cal (f_X5_put M a0 (((M.1 (rf a0 16) (((40 : Int32) * x1) + x2).toNatClampNeg)).toInt64) (1 : Int32)) (fun _ M10 => bndV (x2 + (1 : Int32)) (fun v11 => kb (v11, M10)))))
set_option maxHeartbeats 4000000 in
set_option maxRecDepth 100000 in
theorem b_X5_putLocal_21_g {p : Program} {l : Launch} {e : Env} {s : State} {m : MethodId} {args : Array Value} {below : List Frame} {meth : Method} {c : Code} {D : va_G} {T : Nat → ClassId} {b : Nat} (hC : CX p s m args meth c cX5_putLocal 3 RX5 none D T) (a0 : Nat) (x1 : Int32) (x2 : Int32) (h0 : kd a0 = 5) (kx : Int32 → Me → Option (Unit × Me)) (hkx : ∀ (x2 : Int32) (M : Me), GN p l e (k2_rm 3 69) s m args below meth c D T b 3 eV 54 [(0, .ref (b + a0)), (1, .int x1)] [] M (kx x2 M)) (kb : Int32 × Me → Option (Unit × Me)) (hkb : ∀ z : Int32 × Me, GN p l e (k2_rm 3 69) s m args below meth c D T b 3 eV 21 [(0, .ref (b + a0)), (1, .int x1), (2, .int z.1)] [] z.2 (kb z)) (M : Me) : GN p l e (k2_rm 3 69) s m args below meth c D T b 3 eV 21 [(0, .ref (b + a0)), (1, .int x1), (2, .int x2)] [] M (g_X5_putLocal_21 kx kb a0 x1 x2 M) := by
  unfold g_X5_putLocal_21
  refine n_iload_n hC 2 rfl dX5_putLocal_21 ?_
  refine n_aload_n hC 0 rfl dX5_putLocal_22 ?_
  refine n_get hC clX5 h0 15 (.ref (b + (rf a0 15))) (by decide) rfl fl_X5_43 rfl dX5_putLocal_23 ?_
  refine n_iload_n hC 1 rfl dX5_putLocal_26 ?_
  refine n_iald hC (kf_X5_15 h0) dX5_putLocal_27 (fun g7 => ?_)
  refine n_icmp_ge hC 54 dX5_putLocal_28 (by decide) ?_ ?_
  · exact GN.sub [0, 1] rfl (hkx x2 M)
  refine n_aload_n hC 0 rfl dX5_putLocal_31 ?_
  refine n_aload_n hC 0 rfl dX5_putLocal_32 ?_
  refine n_get hC clX5 h0 16 (.ref (b + (rf a0 16))) (by decide) rfl fl_X5_89 rfl dX5_putLocal_33 ?_
  refine n_bipush hC (40 : Int32) (by decide) dX5_putLocal_36 ?_
  refine n_iload_n hC 1 rfl dX5_putLocal_38 ?_
  refine n_imul hC dX5_putLocal_39 ?_
  refine n_iload_n hC 2 rfl dX5_putLocal_40 ?_
  refine n_iadd hC dX5_putLocal_41 ?_
  refine n_iald hC (kf_X5_16 h0) dX5_putLocal_42 (fun g8 => ?_)
  refine n_i2l hC dX5_putLocal_43 ?_
  refine n_iconst hC (1 : Int32) (by decide) dX5_putLocal_44 ?_
  refine n_callVv (As := [.long ((M.1 (rf a0 16) (((40 : Int32) * x1) + x2).toNatClampNeg)).toInt64, .int (1 : Int32)]) (rest := []) h0 rfl (by decide) hC (c_X5_put l M a0 (((M.1 (rf a0 16) (((40 : Int32) * x1) + x2).toNatClampNeg)).toInt64) (1 : Int32) h0) my_X5_put ml_X5_131 rfl rfl rfl (Nat.le_of_ble_eq_true rfl) ⟨by decide, by decide⟩ dX5_putLocal_45 (fun r9 M10 => ?_)
  refine n_iincB hC (1 : Int32) (by decide) (fun v11 => [(2, .int v11), (0, .ref (b + a0)), (1, .int x1)]) 2 rfl (by decide) (fun _ => rfl) dX5_putLocal_48 (fun v11 => ?_)
  refine n_goto hC (tgt := 21) (by decide) dX5_putLocal_51 ?_
  exact GN.sub [1, 2, 0] rfl (hkb (v11, M10))
def l_X5_putLocal_21 (kx : Int32 → Me → Option (Unit × Me)) (a0 : Nat) (x1 : Int32) (x2 : Int32) (M : Me) : Option (Unit × Me) := lp (fun kb z => g_X5_putLocal_21 kx kb a0 x1 z.1 z.2) FU (x2, M)
set_option maxHeartbeats 4000000 in
set_option maxRecDepth 100000 in
theorem b_X5_putLocal_21 {p : Program} {l : Launch} {e : Env} {s : State} {m : MethodId} {args : Array Value} {below : List Frame} {meth : Method} {c : Code} {D : va_G} {T : Nat → ClassId} {b : Nat} (hC : CX p s m args meth c cX5_putLocal 3 RX5 none D T) (a0 : Nat) (x1 : Int32) (x2 : Int32) (h0 : kd a0 = 5) (kx : Int32 → Me → Option (Unit × Me)) (hkx : ∀ (x2 : Int32) (M : Me), GN p l e (k2_rm 3 69) s m args below meth c D T b 3 eV 54 [(0, .ref (b + a0)), (1, .int x1)] [] M (kx x2 M)) (M : Me) : GN p l e (k2_rm 3 69) s m args below meth c D T b 3 eV 21 [(0, .ref (b + a0)), (1, .int x1), (2, .int x2)] [] M (l_X5_putLocal_21 kx a0 x1 x2 M) := by
  exact n_loop (σ := Int32 × Me) (fun z => [(0, .ref (b + a0)), (1, .int x1), (2, .int z.1)]) (fun z => z.2) (fun kb hkb z => b_X5_putLocal_21_g hC a0 x1 z.1 h0 kx hkx kb hkb z.2) FU (x2, M)
def f_X5_putLocal (M : Me) (a0 : Nat) (x1 : Int32) : Option (Unit × Me) := cal (f_X5_put M a0 (67324752 : Int64) (4 : Int32)) (fun _ M2 => cal (f_X5_putFields M2 a0 x1 (1 : Int32)) (fun _ M4 => cal (f_X5_putName M4 a0 x1) (fun _ M6 => l_X5_putLocal_21 (fun v12 M13 => chk x1 (ln (rf a0 4)) (if (M13.1 (rf a0 4) x1.toNatClampNeg) = (1 : Int32) then cal (f_X5_put M13 a0 (134695760 : Int64) (4 : Int32)) (fun _ M16 => cal (f_X5_sum M16 a0 x1) (fun r17 M18 => cal (f_X5_put M18 a0 r17.toInt64 (4 : Int32)) (fun _ M20 => chk x1 (ln (rf a0 15)) (cal (f_X5_put M20 a0 (((M20.1 (rf a0 15) x1.toNatClampNeg)).toInt64) (4 : Int32)) (fun _ M23 => cal (f_X5_trueSize M23 a0 x1) (fun r24 M25 => cal (f_X5_put M25 a0 r24.toInt64 (4 : Int32)) (fun _ M27 => some ((), M27)))))))) else some ((), M13))) a0 x1 (0 : Int32) M6)))
set_option maxHeartbeats 4000000 in
set_option maxRecDepth 100000 in
theorem c_X5_putLocal (l : Launch) (M : Me) (a0 : Nat) (x1 : Int32) (h0 : kd a0 = 5) : CN l yX5_putLocal cX5_putLocal 3 none (k2_rm 3 69) eV (fun b => [.ref (b + a0), .int x1]) M (f_X5_putLocal M a0 x1) := by
  refine CN.of RX5 (fun b => [(0, .ref (b + a0)), (1, .int x1)]) (by decide) rfl (fun b => Nat.le_of_ble_eq_true rfl) (fun b => rfl) ?_
  intro p e s m args below meth c D T b hC
  unfold f_X5_putLocal
  refine n_aload_n hC 0 rfl dX5_putLocal_0 ?_
  refine n_ldc2 hC (67324752 : Int64) kc_X5_152 dX5_putLocal_1 ?_
  refine n_iconst hC (4 : Int32) (by decide) dX5_putLocal_4 ?_
  refine n_callVv (As := [.long (67324752 : Int64), .int (4 : Int32)]) (rest := []) h0 rfl (by decide) hC (c_X5_put l M a0 (67324752 : Int64) (4 : Int32) h0) my_X5_put ml_X5_131 rfl rfl rfl (Nat.le_of_ble_eq_true rfl) ⟨by decide, by decide⟩ dX5_putLocal_5 (fun r1 M2 => ?_)
  refine n_aload_n hC 0 rfl dX5_putLocal_8 ?_
  refine n_iload_n hC 1 rfl dX5_putLocal_9 ?_
  refine n_iconst hC (1 : Int32) (by decide) dX5_putLocal_10 ?_
  refine n_callVv (As := [.int x1, .int (1 : Int32)]) (rest := []) h0 rfl (by decide) hC (c_X5_putFields l M2 a0 x1 (1 : Int32) h0) my_X5_putFields ml_X5_154 rfl rfl rfl (Nat.le_of_ble_eq_true rfl) ⟨by decide, by decide⟩ dX5_putLocal_11 (fun r3 M4 => ?_)
  refine n_aload_n hC 0 rfl dX5_putLocal_14 ?_
  refine n_iload_n hC 1 rfl dX5_putLocal_15 ?_
  refine n_callVv (As := [.int x1]) (rest := []) h0 rfl (by decide) hC (c_X5_putName l M4 a0 x1 h0) my_X5_putName ml_X5_158 rfl rfl rfl (Nat.le_of_ble_eq_true rfl) ⟨by decide, by decide⟩ dX5_putLocal_16 (fun r5 M6 => ?_)
  refine n_iconst hC (0 : Int32) (by decide) dX5_putLocal_19 ?_
  refine n_istore_n hC rfl [(2, .int (0 : Int32)), (0, .ref (b + a0)), (1, .int x1)] (by decide) rfl dX5_putLocal_20 ?_
  refine GN.sub [1, 2, 0] rfl (b_X5_putLocal_21 hC a0 x1 (0 : Int32) h0 _ (fun v12 M13 => ?_) M6)
  refine n_aload_n hC 0 rfl dX5_putLocal_54 ?_
  refine n_get hC clX5 h0 4 (.ref (b + (rf a0 4))) (by decide) rfl fl_X5_75 rfl dX5_putLocal_55 ?_
  refine n_iload_n hC 1 rfl dX5_putLocal_58 ?_
  refine n_iald hC (kf_X5_4 h0) dX5_putLocal_59 (fun g14 => ?_)
  refine n_iconst hC (1 : Int32) (by decide) dX5_putLocal_60 ?_
  refine n_icmp_ne hC 106 dX5_putLocal_61 (by decide) ?_ ?_
  · exact n_vret hC dX5_putLocal_106
  refine n_aload_n hC 0 rfl dX5_putLocal_64 ?_
  refine n_ldc2 hC (134695760 : Int64) kc_X5_161 dX5_putLocal_65 ?_
  refine n_iconst hC (4 : Int32) (by decide) dX5_putLocal_68 ?_
  refine n_callVv (As := [.long (134695760 : Int64), .int (4 : Int32)]) (rest := []) h0 rfl (by decide) hC (c_X5_put l M13 a0 (134695760 : Int64) (4 : Int32) h0) my_X5_put ml_X5_131 rfl rfl rfl (Nat.le_of_ble_eq_true rfl) ⟨by decide, by decide⟩ dX5_putLocal_69 (fun r15 M16 => ?_)
  refine n_aload_n hC 0 rfl dX5_putLocal_72 ?_
  refine n_aload_n hC 0 rfl dX5_putLocal_73 ?_
  refine n_iload_n hC 1 rfl dX5_putLocal_74 ?_
  refine n_callVi (As := [.int x1]) (rest := [.ref (b + a0)]) h0 rfl (by decide) hC (c_X5_sum l M16 a0 x1 h0) my_X5_sum ml_X5_144 rfl rfl rfl (Nat.le_of_ble_eq_true rfl) ⟨by decide, by decide⟩ dX5_putLocal_75 (fun r17 M18 => ?_)
  refine n_i2l hC dX5_putLocal_78 ?_
  refine n_iconst hC (4 : Int32) (by decide) dX5_putLocal_79 ?_
  refine n_callVv (As := [.long r17.toInt64, .int (4 : Int32)]) (rest := []) h0 rfl (by decide) hC (c_X5_put l M18 a0 r17.toInt64 (4 : Int32) h0) my_X5_put ml_X5_131 rfl rfl rfl (Nat.le_of_ble_eq_true rfl) ⟨by decide, by decide⟩ dX5_putLocal_80 (fun r19 M20 => ?_)
  refine n_aload_n hC 0 rfl dX5_putLocal_83 ?_
  refine n_aload_n hC 0 rfl dX5_putLocal_84 ?_
  refine n_get hC clX5 h0 15 (.ref (b + (rf a0 15))) (by decide) rfl fl_X5_43 rfl dX5_putLocal_85 ?_
  refine n_iload_n hC 1 rfl dX5_putLocal_88 ?_
  refine n_iald hC (kf_X5_15 h0) dX5_putLocal_89 (fun g21 => ?_)
  refine n_i2l hC dX5_putLocal_90 ?_
  refine n_iconst hC (4 : Int32) (by decide) dX5_putLocal_91 ?_
  refine n_callVv (As := [.long ((M20.1 (rf a0 15) x1.toNatClampNeg)).toInt64, .int (4 : Int32)]) (rest := []) h0 rfl (by decide) hC (c_X5_put l M20 a0 (((M20.1 (rf a0 15) x1.toNatClampNeg)).toInt64) (4 : Int32) h0) my_X5_put ml_X5_131 rfl rfl rfl (Nat.le_of_ble_eq_true rfl) ⟨by decide, by decide⟩ dX5_putLocal_92 (fun r22 M23 => ?_)
  refine n_aload_n hC 0 rfl dX5_putLocal_95 ?_
  refine n_aload_n hC 0 rfl dX5_putLocal_96 ?_
  refine n_iload_n hC 1 rfl dX5_putLocal_97 ?_
  refine n_callVi (As := [.int x1]) (rest := [.ref (b + a0)]) h0 rfl (by decide) hC (c_X5_trueSize l M23 a0 x1 h0) my_X5_trueSize ml_X5_137 rfl rfl rfl (Nat.le_of_ble_eq_true rfl) ⟨by decide, by decide⟩ dX5_putLocal_98 (fun r24 M25 => ?_)
  refine n_i2l hC dX5_putLocal_101 ?_
  refine n_iconst hC (4 : Int32) (by decide) dX5_putLocal_102 ?_
  refine n_callVv (As := [.long r24.toInt64, .int (4 : Int32)]) (rest := []) h0 rfl (by decide) hC (c_X5_put l M25 a0 r24.toInt64 (4 : Int32) h0) my_X5_put ml_X5_131 rfl rfl rfl (Nat.le_of_ble_eq_true rfl) ⟨by decide, by decide⟩ dX5_putLocal_103 (fun r26 M27 => ?_)
  exact n_vret hC dX5_putLocal_106
def f_X5_localLong (M : Me) (a0 : Nat) (x1 : Int32) : Option (Int32 × Me) := chk x1 (ln (rf a0 6)) (cal (f_X5_extraLong M a0 x1) (fun r2 M3 => chk x1 (ln (rf a0 15)) (chk x1 (ln (rf a0 4)) (if (M3.1 (rf a0 4) x1.toNatClampNeg) = (1 : Int32) then some ((((((30 : Int32) + (M.1 (rf a0 6) x1.toNatClampNeg)) + r2) + (M3.1 (rf a0 15) x1.toNatClampNeg)) + (16 : Int32)), M3) else some ((((((30 : Int32) + (M.1 (rf a0 6) x1.toNatClampNeg)) + r2) + (M3.1 (rf a0 15) x1.toNatClampNeg)) + (0 : Int32)), M3)))))
set_option maxHeartbeats 4000000 in
set_option maxRecDepth 100000 in
theorem c_X5_localLong (l : Launch) (M : Me) (a0 : Nat) (x1 : Int32) (h0 : kd a0 = 5) : CN l yX5_localLong cX5_localLong 2 (some .int) (k2_rm 1 23) eI (fun b => [.ref (b + a0), .int x1]) M (f_X5_localLong M a0 x1) := by
  refine CN.of RX5 (fun b => [(0, .ref (b + a0)), (1, .int x1)]) (by decide) rfl (fun b => Nat.le_of_ble_eq_true rfl) (fun b => rfl) ?_
  intro p e s m args below meth c D T b hC
  unfold f_X5_localLong
  refine n_bipush hC (30 : Int32) (by decide) dX5_localLong_0 ?_
  refine n_aload_n hC 0 rfl dX5_localLong_2 ?_
  refine n_get hC clX5 h0 6 (.ref (b + (rf a0 6))) (by decide) rfl fl_X5_23 rfl dX5_localLong_3 ?_
  refine n_iload_n hC 1 rfl dX5_localLong_6 ?_
  refine n_iald hC (kf_X5_6 h0) dX5_localLong_7 (fun g1 => ?_)
  refine n_iadd hC dX5_localLong_8 ?_
  refine n_aload_n hC 0 rfl dX5_localLong_9 ?_
  refine n_iload_n hC 1 rfl dX5_localLong_10 ?_
  refine n_callVi (As := [.int x1]) (rest := [.int ((30 : Int32) + (M.1 (rf a0 6) x1.toNatClampNeg))]) h0 rfl (by decide) hC (c_X5_extraLong l M a0 x1 h0) my_X5_extraLong ml_X5_149 rfl rfl rfl (Nat.le_of_ble_eq_true rfl) ⟨by decide, by decide⟩ dX5_localLong_11 (fun r2 M3 => ?_)
  refine n_iadd hC dX5_localLong_14 ?_
  refine n_aload_n hC 0 rfl dX5_localLong_15 ?_
  refine n_get hC clX5 h0 15 (.ref (b + (rf a0 15))) (by decide) rfl fl_X5_43 rfl dX5_localLong_16 ?_
  refine n_iload_n hC 1 rfl dX5_localLong_19 ?_
  refine n_iald hC (kf_X5_15 h0) dX5_localLong_20 (fun g4 => ?_)
  refine n_iadd hC dX5_localLong_21 ?_
  refine n_aload_n hC 0 rfl dX5_localLong_22 ?_
  refine n_get hC clX5 h0 4 (.ref (b + (rf a0 4))) (by decide) rfl fl_X5_75 rfl dX5_localLong_23 ?_
  refine n_iload_n hC 1 rfl dX5_localLong_26 ?_
  refine n_iald hC (kf_X5_4 h0) dX5_localLong_27 (fun g5 => ?_)
  refine n_iconst hC (1 : Int32) (by decide) dX5_localLong_28 ?_
  refine n_icmp_ne hC 37 dX5_localLong_29 (by decide) ?_ ?_
  · refine n_iconst hC (0 : Int32) (by decide) dX5_localLong_37 ?_
    refine n_iadd hC dX5_localLong_38 ?_
    exact n_iret hC dX5_localLong_39
  refine n_bipush hC (16 : Int32) (by decide) dX5_localLong_32 ?_
  refine n_goto hC (tgt := 38) (by decide) dX5_localLong_34 ?_
  refine n_iadd hC dX5_localLong_38 ?_
  exact n_iret hC dX5_localLong_39
def f_X5_centreLong (M : Me) (a0 : Nat) (x1 : Int32) : Option (Int32 × Me) := chk x1 (ln (rf a0 6)) (cal (f_X5_extraLong M a0 x1) (fun r2 M3 => some ((((46 : Int32) + (M.1 (rf a0 6) x1.toNatClampNeg)) + r2), M3)))
set_option maxHeartbeats 4000000 in
set_option maxRecDepth 100000 in
theorem c_X5_centreLong (l : Launch) (M : Me) (a0 : Nat) (x1 : Int32) (h0 : kd a0 = 5) : CN l yX5_centreLong cX5_centreLong 2 (some .int) (k2_rm 1 23) eI (fun b => [.ref (b + a0), .int x1]) M (f_X5_centreLong M a0 x1) := by
  refine CN.of RX5 (fun b => [(0, .ref (b + a0)), (1, .int x1)]) (by decide) rfl (fun b => Nat.le_of_ble_eq_true rfl) (fun b => rfl) ?_
  intro p e s m args below meth c D T b hC
  unfold f_X5_centreLong
  refine n_bipush hC (46 : Int32) (by decide) dX5_centreLong_0 ?_
  refine n_aload_n hC 0 rfl dX5_centreLong_2 ?_
  refine n_get hC clX5 h0 6 (.ref (b + (rf a0 6))) (by decide) rfl fl_X5_23 rfl dX5_centreLong_3 ?_
  refine n_iload_n hC 1 rfl dX5_centreLong_6 ?_
  refine n_iald hC (kf_X5_6 h0) dX5_centreLong_7 (fun g1 => ?_)
  refine n_iadd hC dX5_centreLong_8 ?_
  refine n_aload_n hC 0 rfl dX5_centreLong_9 ?_
  refine n_iload_n hC 1 rfl dX5_centreLong_10 ?_
  refine n_callVi (As := [.int x1]) (rest := [.int ((46 : Int32) + (M.1 (rf a0 6) x1.toNatClampNeg))]) h0 rfl (by decide) hC (c_X5_extraLong l M a0 x1 h0) my_X5_extraLong ml_X5_149 rfl rfl rfl (Nat.le_of_ble_eq_true rfl) ⟨by decide, by decide⟩ dX5_centreLong_11 (fun r2 M3 => ?_)
  refine n_iadd hC dX5_centreLong_14 ?_
  exact n_iret hC dX5_centreLong_15
def j_X5_isBare_31 (kx : Int32 → Me → Option (Int32 × Me)) (kb : Int32 × Me → Option (Int32 × Me)) (a0 : Nat) (x1 : Int32) (M : Me) : Option (Int32 × Me) := bndV (x1 + (1 : Int32)) (fun v2 => kb (v2, M))
set_option maxHeartbeats 4000000 in
set_option maxRecDepth 100000 in
theorem b_X5_isBare_31 {p : Program} {l : Launch} {e : Env} {s : State} {m : MethodId} {args : Array Value} {below : List Frame} {meth : Method} {c : Code} {D : va_G} {T : Nat → ClassId} {b : Nat} (hC : CX p s m args meth c cX5_isBare 2 RX5 (some .boolean) D T) (a0 : Nat) (x1 : Int32) (h0 : kd a0 = 5) (kx : Int32 → Me → Option (Int32 × Me)) (hkx : ∀ (x1 : Int32) (M : Me), GN p l e (k2_rm 0 0) s m args below meth c D T b 2 eI 37 [] [] M (kx x1 M)) (kb : Int32 × Me → Option (Int32 × Me)) (hkb : ∀ z : Int32 × Me, GN p l e (k2_rm 0 0) s m args below meth c D T b 2 eI 2 [(0, .ref (b + a0)), (1, .int z.1)] [] z.2 (kb z)) (M : Me) : GN p l e (k2_rm 0 0) s m args below meth c D T b 2 eI 31 [(0, .ref (b + a0)), (1, .int x1)] [] M (j_X5_isBare_31 kx kb a0 x1 M) := by
  unfold j_X5_isBare_31
  refine n_iincB hC (1 : Int32) (by decide) (fun v2 => [(1, .int v2), (0, .ref (b + a0))]) 1 rfl (by decide) (fun _ => rfl) dX5_isBare_31 (fun v2 => ?_)
  refine n_goto hC (tgt := 2) (by decide) dX5_isBare_34 ?_
  exact GN.sub [1, 0] rfl (hkb (v2, M))
def g_X5_isBare_2 (kx : Int32 → Me → Option (Int32 × Me)) (kb : Int32 × Me → Option (Int32 × Me)) (a0 : Nat) (x1 : Int32) (M : Me) : Option (Int32 × Me) := if (M.1 a0 2) ≤ x1 then kx x1 M else chk x1 (ln (rf a0 3)) (if (M.1 (rf a0 3) x1.toNatClampNeg) = (2 : Int32) then j_X5_isBare_31 kx kb a0 x1 M else chk x1 (ln (rf a0 14)) (if (M.1 (rf a0 14) x1.toNatClampNeg) = (0 : Int32) then chZ (1 : Int32) (some ((1 : Int32), M)) else j_X5_isBare_31 kx kb a0 x1 M))
set_option maxHeartbeats 4000000 in
set_option maxRecDepth 100000 in
theorem b_X5_isBare_2_g {p : Program} {l : Launch} {e : Env} {s : State} {m : MethodId} {args : Array Value} {below : List Frame} {meth : Method} {c : Code} {D : va_G} {T : Nat → ClassId} {b : Nat} (hC : CX p s m args meth c cX5_isBare 2 RX5 (some .boolean) D T) (a0 : Nat) (x1 : Int32) (h0 : kd a0 = 5) (kx : Int32 → Me → Option (Int32 × Me)) (hkx : ∀ (x1 : Int32) (M : Me), GN p l e (k2_rm 0 0) s m args below meth c D T b 2 eI 37 [] [] M (kx x1 M)) (kb : Int32 × Me → Option (Int32 × Me)) (hkb : ∀ z : Int32 × Me, GN p l e (k2_rm 0 0) s m args below meth c D T b 2 eI 2 [(0, .ref (b + a0)), (1, .int z.1)] [] z.2 (kb z)) (M : Me) : GN p l e (k2_rm 0 0) s m args below meth c D T b 2 eI 2 [(0, .ref (b + a0)), (1, .int x1)] [] M (g_X5_isBare_2 kx kb a0 x1 M) := by
  unfold g_X5_isBare_2
  refine n_iload_n hC 1 rfl dX5_isBare_2 ?_
  refine n_aload_n hC 0 rfl dX5_isBare_3 ?_
  refine n_get hC clX5 h0 2 (.int (M.1 a0 2)) (by decide) rfl fl_X5_10 rfl dX5_isBare_4 ?_
  refine n_icmp_ge hC 37 dX5_isBare_7 (by decide) ?_ ?_
  · exact GN.sub [] rfl (hkx x1 M)
  refine n_aload_n hC 0 rfl dX5_isBare_10 ?_
  refine n_get hC clX5 h0 3 (.ref (b + (rf a0 3))) (by decide) rfl fl_X5_72 rfl dX5_isBare_11 ?_
  refine n_iload_n hC 1 rfl dX5_isBare_14 ?_
  refine n_iald hC (kf_X5_3 h0) dX5_isBare_15 (fun g1 => ?_)
  refine n_iconst hC (2 : Int32) (by decide) dX5_isBare_16 ?_
  refine n_icmp_eq hC 31 dX5_isBare_17 (by decide) ?_ ?_
  · exact GN.sub [0, 1] rfl (b_X5_isBare_31 hC a0 x1 h0 kx hkx kb hkb M)
  refine n_aload_n hC 0 rfl dX5_isBare_20 ?_
  refine n_get hC clX5 h0 14 (.ref (b + (rf a0 14))) (by decide) rfl fl_X5_39 rfl dX5_isBare_21 ?_
  refine n_iload_n hC 1 rfl dX5_isBare_24 ?_
  refine n_zald hC (kf_X5_14 h0) dX5_isBare_25 (fun g3 => ?_)
  refine n_if_ne hC 31 dX5_isBare_26 (by decide) ?_ ?_
  · exact GN.sub [0, 1] rfl (b_X5_isBare_31 hC a0 x1 h0 kx hkx kb hkb M)
  refine n_iconst hC (1 : Int32) (by decide) dX5_isBare_29 ?_
  exact n_zret hC dX5_isBare_30
def l_X5_isBare_2 (kx : Int32 → Me → Option (Int32 × Me)) (a0 : Nat) (x1 : Int32) (M : Me) : Option (Int32 × Me) := lp (fun kb z => g_X5_isBare_2 kx kb a0 z.1 z.2) FU (x1, M)
set_option maxHeartbeats 4000000 in
set_option maxRecDepth 100000 in
theorem b_X5_isBare_2 {p : Program} {l : Launch} {e : Env} {s : State} {m : MethodId} {args : Array Value} {below : List Frame} {meth : Method} {c : Code} {D : va_G} {T : Nat → ClassId} {b : Nat} (hC : CX p s m args meth c cX5_isBare 2 RX5 (some .boolean) D T) (a0 : Nat) (x1 : Int32) (h0 : kd a0 = 5) (kx : Int32 → Me → Option (Int32 × Me)) (hkx : ∀ (x1 : Int32) (M : Me), GN p l e (k2_rm 0 0) s m args below meth c D T b 2 eI 37 [] [] M (kx x1 M)) (M : Me) : GN p l e (k2_rm 0 0) s m args below meth c D T b 2 eI 2 [(0, .ref (b + a0)), (1, .int x1)] [] M (l_X5_isBare_2 kx a0 x1 M) := by
  exact n_loop (σ := Int32 × Me) (fun z => [(0, .ref (b + a0)), (1, .int z.1)]) (fun z => z.2) (fun kb hkb z => b_X5_isBare_2_g hC a0 z.1 h0 kx hkx kb hkb z.2) FU (x1, M)
def f_X5_isBare (M : Me) (a0 : Nat) : Option (Int32 × Me) := l_X5_isBare_2 (fun v4 M5 => chZ (0 : Int32) (some ((0 : Int32), M5))) a0 (0 : Int32) M
set_option maxHeartbeats 4000000 in
set_option maxRecDepth 100000 in
theorem c_X5_isBare (l : Launch) (M : Me) (a0 : Nat) (h0 : kd a0 = 5) : CN l yX5_isBare cX5_isBare 2 (some .boolean) (k2_rm 0 0) eI (fun b => [.ref (b + a0)]) M (f_X5_isBare M a0) := by
  refine CN.of RX5 (fun b => [(0, .ref (b + a0))]) (by decide) rfl (fun b => Nat.le_of_ble_eq_true rfl) (fun b => rfl) ?_
  intro p e s m args below meth c D T b hC
  unfold f_X5_isBare
  refine n_iconst hC (0 : Int32) (by decide) dX5_isBare_0 ?_
  refine n_istore_n hC rfl [(1, .int (0 : Int32)), (0, .ref (b + a0))] (by decide) rfl dX5_isBare_1 ?_
  refine GN.sub [1, 0] rfl (b_X5_isBare_2 hC a0 (0 : Int32) h0 _ (fun v4 M5 => ?_) M)
  refine n_iconst hC (0 : Int32) (by decide) dX5_isBare_37 ?_
  exact n_zret hC dX5_isBare_38
def j_X5_goes_58 (kx : Int32 → Int32 → Me → Option (Int32 × Me)) (kb : Int32 × Int32 × Me → Option (Int32 × Me)) (a0 : Nat) (x1 : Int32) (x2 : Int32) (x3 : Int32) (x4 : Int32) (s0 : Int32) (s1 : Int32) (s2 : Int32) (M : Me) : Option (Int32 × Me) := bndV (s2 + (s1 + s0)) (fun v8 => bndV (x4 + (1 : Int32)) (fun v9 => kb (v8, v9, M)))
set_option maxHeartbeats 4000000 in
set_option maxRecDepth 100000 in
theorem b_X5_goes_58 {p : Program} {l : Launch} {e : Env} {s : State} {m : MethodId} {args : Array Value} {below : List Frame} {meth : Method} {c : Code} {D : va_G} {T : Nat → ClassId} {b : Nat} (hC : CX p s m args meth c cX5_goes 7 RX5 (some .int) D T) (a0 : Nat) (x1 : Int32) (x2 : Int32) (x3 : Int32) (x4 : Int32) (s0 : Int32) (s1 : Int32) (s2 : Int32) (h0 : kd a0 = 5) (kx : Int32 → Int32 → Me → Option (Int32 × Me)) (hkx : ∀ (x3 : Int32) (x4 : Int32) (M : Me), GN p l e (k2_rm 4 91) s m args below meth c D T b 7 eI 67 [(0, .ref (b + a0)), (1, .int x1), (2, .int x2), (3, .int x3)] [] M (kx x3 x4 M)) (kb : Int32 × Int32 × Me → Option (Int32 × Me)) (hkb : ∀ z : Int32 × Int32 × Me, GN p l e (k2_rm 4 91) s m args below meth c D T b 7 eI 26 [(0, .ref (b + a0)), (1, .int x1), (2, .int x2), (3, .int z.1), (4, .int z.2.1)] [] z.2.2 (kb z)) (M : Me) : GN p l e (k2_rm 4 91) s m args below meth c D T b 7 eI 58 [(0, .ref (b + a0)), (1, .int x1), (2, .int x2), (3, .int x3), (4, .int x4)] [.int s0, .int s1, .int s2] M (j_X5_goes_58 kx kb a0 x1 x2 x3 x4 s0 s1 s2 M) := by
  unfold j_X5_goes_58
  refine n_iadd hC dX5_goes_58 ?_
  refine n_iadd hC dX5_goes_59 ?_
  refine n_istB_n hC rfl (fun v8 => [(3, .int v8), (0, .ref (b + a0)), (1, .int x1), (2, .int x2), (4, .int x4)]) (by decide) (fun _ => rfl) dX5_goes_60 (fun v8 => ?_)
  refine n_iincB hC (1 : Int32) (by decide) (fun v9 => [(4, .int v9), (3, .int v8), (0, .ref (b + a0)), (1, .int x1), (2, .int x2)]) 4 rfl (by decide) (fun _ => rfl) dX5_goes_61 (fun v9 => ?_)
  refine n_goto hC (tgt := 26) (by decide) dX5_goes_64 ?_
  exact GN.sub [2, 3, 4, 1, 0] rfl (hkb (v8, v9, M))
def g_X5_goes_26 (kx : Int32 → Int32 → Me → Option (Int32 × Me)) (kb : Int32 × Int32 × Me → Option (Int32 × Me)) (a0 : Nat) (x1 : Int32) (x2 : Int32) (x3 : Int32) (x4 : Int32) (M : Me) : Option (Int32 × Me) := if (M.1 a0 2) ≤ x4 then kx x3 x4 M else cal (f_X5_centreLong M a0 x4) (fun r4 M5 => if x1 ≤ x4 then cal (f_X5_localLong M5 a0 x4) (fun r6 M7 => j_X5_goes_58 kx kb a0 x1 x2 x3 x4 r6 r4 x3 M7) else j_X5_goes_58 kx kb a0 x1 x2 x3 x4 (0 : Int32) r4 x3 M5)
set_option maxHeartbeats 4000000 in
set_option maxRecDepth 100000 in
theorem b_X5_goes_26_g {p : Program} {l : Launch} {e : Env} {s : State} {m : MethodId} {args : Array Value} {below : List Frame} {meth : Method} {c : Code} {D : va_G} {T : Nat → ClassId} {b : Nat} (hC : CX p s m args meth c cX5_goes 7 RX5 (some .int) D T) (a0 : Nat) (x1 : Int32) (x2 : Int32) (x3 : Int32) (x4 : Int32) (h0 : kd a0 = 5) (kx : Int32 → Int32 → Me → Option (Int32 × Me)) (hkx : ∀ (x3 : Int32) (x4 : Int32) (M : Me), GN p l e (k2_rm 4 91) s m args below meth c D T b 7 eI 67 [(0, .ref (b + a0)), (1, .int x1), (2, .int x2), (3, .int x3)] [] M (kx x3 x4 M)) (kb : Int32 × Int32 × Me → Option (Int32 × Me)) (hkb : ∀ z : Int32 × Int32 × Me, GN p l e (k2_rm 4 91) s m args below meth c D T b 7 eI 26 [(0, .ref (b + a0)), (1, .int x1), (2, .int x2), (3, .int z.1), (4, .int z.2.1)] [] z.2.2 (kb z)) (M : Me) : GN p l e (k2_rm 4 91) s m args below meth c D T b 7 eI 26 [(0, .ref (b + a0)), (1, .int x1), (2, .int x2), (3, .int x3), (4, .int x4)] [] M (g_X5_goes_26 kx kb a0 x1 x2 x3 x4 M) := by
  unfold g_X5_goes_26
  refine n_iload hC 4 rfl dX5_goes_26 ?_
  refine n_aload_n hC 0 rfl dX5_goes_28 ?_
  refine n_get hC clX5 h0 2 (.int (M.1 a0 2)) (by decide) rfl fl_X5_10 rfl dX5_goes_29 ?_
  refine n_icmp_ge hC 67 dX5_goes_32 (by decide) ?_ ?_
  · exact GN.sub [0, 1, 2, 3] rfl (hkx x3 x4 M)
  refine n_iload_n hC 3 rfl dX5_goes_35 ?_
  refine n_aload_n hC 0 rfl dX5_goes_36 ?_
  refine n_iload hC 4 rfl dX5_goes_37 ?_
  refine n_callVi (As := [.int x4]) (rest := [.int x3]) h0 rfl (by decide) hC (c_X5_centreLong l M a0 x4 h0) my_X5_centreLong ml_X5_167 rfl rfl rfl (Nat.le_of_ble_eq_true rfl) ⟨by decide, by decide⟩ dX5_goes_39 (fun r4 M5 => ?_)
  refine n_iload hC 4 rfl dX5_goes_42 ?_
  refine n_iload_n hC 1 rfl dX5_goes_44 ?_
  refine n_icmp_ge hC 52 dX5_goes_45 (by decide) ?_ ?_
  · refine n_aload_n hC 0 rfl dX5_goes_52 ?_
    refine n_iload hC 4 rfl dX5_goes_53 ?_
    refine n_callVi (As := [.int x4]) (rest := [.int r4, .int x3]) h0 rfl (by decide) hC (c_X5_localLong l M5 a0 x4 h0) my_X5_localLong ml_X5_170 rfl rfl rfl (Nat.le_of_ble_eq_true rfl) ⟨by decide, by decide⟩ dX5_goes_55 (fun r6 M7 => ?_)
    exact GN.sub [0, 1, 2, 3, 4] rfl (b_X5_goes_58 hC a0 x1 x2 x3 x4 r6 r4 x3 h0 kx hkx kb hkb M7)
  refine n_iconst hC (0 : Int32) (by decide) dX5_goes_48 ?_
  refine n_goto hC (tgt := 58) (by decide) dX5_goes_49 ?_
  exact GN.sub [0, 1, 2, 3, 4] rfl (b_X5_goes_58 hC a0 x1 x2 x3 x4 (0 : Int32) r4 x3 h0 kx hkx kb hkb M5)
def l_X5_goes_26 (kx : Int32 → Int32 → Me → Option (Int32 × Me)) (a0 : Nat) (x1 : Int32) (x2 : Int32) (x3 : Int32) (x4 : Int32) (M : Me) : Option (Int32 × Me) := lp (fun kb z => g_X5_goes_26 kx kb a0 x1 x2 z.1 z.2.1 z.2.2) FU (x3, x4, M)
set_option maxHeartbeats 4000000 in
set_option maxRecDepth 100000 in
theorem b_X5_goes_26 {p : Program} {l : Launch} {e : Env} {s : State} {m : MethodId} {args : Array Value} {below : List Frame} {meth : Method} {c : Code} {D : va_G} {T : Nat → ClassId} {b : Nat} (hC : CX p s m args meth c cX5_goes 7 RX5 (some .int) D T) (a0 : Nat) (x1 : Int32) (x2 : Int32) (x3 : Int32) (x4 : Int32) (h0 : kd a0 = 5) (kx : Int32 → Int32 → Me → Option (Int32 × Me)) (hkx : ∀ (x3 : Int32) (x4 : Int32) (M : Me), GN p l e (k2_rm 4 91) s m args below meth c D T b 7 eI 67 [(0, .ref (b + a0)), (1, .int x1), (2, .int x2), (3, .int x3)] [] M (kx x3 x4 M)) (M : Me) : GN p l e (k2_rm 4 91) s m args below meth c D T b 7 eI 26 [(0, .ref (b + a0)), (1, .int x1), (2, .int x2), (3, .int x3), (4, .int x4)] [] M (l_X5_goes_26 kx a0 x1 x2 x3 x4 M) := by
  exact n_loop (σ := Int32 × Int32 × Me) (fun z => [(0, .ref (b + a0)), (1, .int x1), (2, .int x2), (3, .int z.1), (4, .int z.2.1)]) (fun z => z.2.2) (fun kb hkb z => b_X5_goes_26_g hC a0 x1 x2 z.1 z.2.1 h0 kx hkx kb hkb z.2.2) FU (x3, x4, M)
def g_X5_goes_85 (kx : Int32 → Me → Option (Int32 × Me)) (kb : Int32 × Me → Option (Int32 × Me)) (a0 : Nat) (x4 : Int32) (M : Me) : Option (Int32 × Me) := if (M.1 a0 2) ≤ x4 then kx x4 M else chk x4 (ln (rf a0 20)) (bnd (sI M (rf a0 20) x4.toNatClampNeg (M.1 a0 25)) (fun M14 => cal (f_X5_putLocal M14 a0 x4) (fun _ M16 => bndV (x4 + (1 : Int32)) (fun v17 => kb (v17, M16)))))
set_option maxHeartbeats 4000000 in
set_option maxRecDepth 100000 in
theorem b_X5_goes_85_g {p : Program} {l : Launch} {e : Env} {s : State} {m : MethodId} {args : Array Value} {below : List Frame} {meth : Method} {c : Code} {D : va_G} {T : Nat → ClassId} {b : Nat} (hC : CX p s m args meth c cX5_goes 7 RX5 (some .int) D T) (a0 : Nat) (x4 : Int32) (h0 : kd a0 = 5) (kx : Int32 → Me → Option (Int32 × Me)) (hkx : ∀ (x4 : Int32) (M : Me), GN p l e (k2_rm 4 91) s m args below meth c D T b 7 eI 117 [(0, .ref (b + a0))] [] M (kx x4 M)) (kb : Int32 × Me → Option (Int32 × Me)) (hkb : ∀ z : Int32 × Me, GN p l e (k2_rm 4 91) s m args below meth c D T b 7 eI 85 [(0, .ref (b + a0)), (4, .int z.1)] [] z.2 (kb z)) (M : Me) : GN p l e (k2_rm 4 91) s m args below meth c D T b 7 eI 85 [(0, .ref (b + a0)), (4, .int x4)] [] M (g_X5_goes_85 kx kb a0 x4 M) := by
  unfold g_X5_goes_85
  refine n_iload hC 1 rfl dX5_goes_85 ?_
  refine n_aload_n hC 0 rfl dX5_goes_87 ?_
  refine n_get hC clX5 h0 2 (.int (M.1 a0 2)) (by decide) rfl fl_X5_10 rfl dX5_goes_88 ?_
  refine n_icmp_ge hC 117 dX5_goes_91 (by decide) ?_ ?_
  · exact GN.sub [0] rfl (hkx x4 M)
  refine n_aload_n hC 0 rfl dX5_goes_94 ?_
  refine n_get hC clX5 h0 20 (.ref (b + (rf a0 20))) (by decide) rfl fl_X5_55 rfl dX5_goes_95 ?_
  refine n_iload hC 1 rfl dX5_goes_98 ?_
  refine n_aload_n hC 0 rfl dX5_goes_100 ?_
  refine n_get hC clX5 h0 25 (.int (M.1 a0 25)) (by decide) rfl fl_X5_125 rfl dX5_goes_101 ?_
  refine n_iast hC (kf_X5_20 h0) dX5_goes_104 (fun M14 => ?_)
  refine n_aload_n hC 0 rfl dX5_goes_105 ?_
  refine n_iload hC 1 rfl dX5_goes_106 ?_
  refine n_callVv (As := [.int x4]) (rest := []) h0 rfl (by decide) hC (c_X5_putLocal l M14 a0 x4 h0) my_X5_putLocal ml_X5_173 rfl rfl rfl (Nat.le_of_ble_eq_true rfl) ⟨by decide, by decide⟩ dX5_goes_108 (fun r15 M16 => ?_)
  refine n_iincB hC (1 : Int32) (by decide) (fun v17 => [(4, .int v17), (0, .ref (b + a0))]) 1 rfl (by decide) (fun _ => rfl) dX5_goes_111 (fun v17 => ?_)
  refine n_goto hC (tgt := 85) (by decide) dX5_goes_114 ?_
  exact GN.sub [1, 0] rfl (hkb (v17, M16))
def l_X5_goes_85 (kx : Int32 → Me → Option (Int32 × Me)) (a0 : Nat) (x4 : Int32) (M : Me) : Option (Int32 × Me) := lp (fun kb z => g_X5_goes_85 kx kb a0 z.1 z.2) FU (x4, M)
set_option maxHeartbeats 4000000 in
set_option maxRecDepth 100000 in
theorem b_X5_goes_85 {p : Program} {l : Launch} {e : Env} {s : State} {m : MethodId} {args : Array Value} {below : List Frame} {meth : Method} {c : Code} {D : va_G} {T : Nat → ClassId} {b : Nat} (hC : CX p s m args meth c cX5_goes 7 RX5 (some .int) D T) (a0 : Nat) (x4 : Int32) (h0 : kd a0 = 5) (kx : Int32 → Me → Option (Int32 × Me)) (hkx : ∀ (x4 : Int32) (M : Me), GN p l e (k2_rm 4 91) s m args below meth c D T b 7 eI 117 [(0, .ref (b + a0))] [] M (kx x4 M)) (M : Me) : GN p l e (k2_rm 4 91) s m args below meth c D T b 7 eI 85 [(0, .ref (b + a0)), (4, .int x4)] [] M (l_X5_goes_85 kx a0 x4 M) := by
  exact n_loop (σ := Int32 × Me) (fun z => [(0, .ref (b + a0)), (4, .int z.1)]) (fun z => z.2) (fun kb hkb z => b_X5_goes_85_g hC a0 z.1 h0 kx hkx kb hkb z.2) FU (x4, M)
def g_X5_goes_126 (kx : Int32 → Me → Option (Int32 × Me)) (kb : Int32 × Me → Option (Int32 × Me)) (a0 : Nat) (x4 : Int32) (x5 : Int32) (M : Me) : Option (Int32 × Me) := if (M.1 a0 2) ≤ x5 then kx x5 M else cal (f_X5_put M a0 (33639248 : Int64) (4 : Int32)) (fun _ M22 => cal (f_X5_put M22 a0 (20 : Int64) (2 : Int32)) (fun _ M24 => cal (f_X5_putFields M24 a0 x5 (0 : Int32)) (fun _ M26 => cal (f_X5_put M26 a0 (0 : Int64) (6 : Int32)) (fun _ M28 => chk x5 (ln (rf a0 9)) (cal (f_X5_put M28 a0 (((M28.1 (rf a0 9) x5.toNatClampNeg)).toInt64) (4 : Int32)) (fun _ M31 => chk x5 (ln (rf a0 20)) (cal (f_X5_put M31 a0 (((M31.1 (rf a0 20) x5.toNatClampNeg)).toInt64) (4 : Int32)) (fun _ M34 => cal (f_X5_putName M34 a0 x5) (fun _ M36 => bndV (x5 + (1 : Int32)) (fun v37 => kb (v37, M36)))))))))))
set_option maxHeartbeats 4000000 in
set_option maxRecDepth 100000 in
theorem b_X5_goes_126_g {p : Program} {l : Launch} {e : Env} {s : State} {m : MethodId} {args : Array Value} {below : List Frame} {meth : Method} {c : Code} {D : va_G} {T : Nat → ClassId} {b : Nat} (hC : CX p s m args meth c cX5_goes 7 RX5 (some .int) D T) (a0 : Nat) (x4 : Int32) (x5 : Int32) (h0 : kd a0 = 5) (kx : Int32 → Me → Option (Int32 × Me)) (hkx : ∀ (x5 : Int32) (M : Me), GN p l e (k2_rm 4 91) s m args below meth c D T b 7 eI 203 [(0, .ref (b + a0)), (4, .int x4)] [] M (kx x5 M)) (kb : Int32 × Me → Option (Int32 × Me)) (hkb : ∀ z : Int32 × Me, GN p l e (k2_rm 4 91) s m args below meth c D T b 7 eI 126 [(0, .ref (b + a0)), (4, .int x4), (5, .int z.1)] [] z.2 (kb z)) (M : Me) : GN p l e (k2_rm 4 91) s m args below meth c D T b 7 eI 126 [(0, .ref (b + a0)), (4, .int x4), (5, .int x5)] [] M (g_X5_goes_126 kx kb a0 x4 x5 M) := by
  unfold g_X5_goes_126
  refine n_iload hC 2 rfl dX5_goes_126 ?_
  refine n_aload_n hC 0 rfl dX5_goes_128 ?_
  refine n_get hC clX5 h0 2 (.int (M.1 a0 2)) (by decide) rfl fl_X5_10 rfl dX5_goes_129 ?_
  refine n_icmp_ge hC 203 dX5_goes_132 (by decide) ?_ ?_
  · exact GN.sub [0, 1] rfl (hkx x5 M)
  refine n_aload_n hC 0 rfl dX5_goes_135 ?_
  refine n_ldc2 hC (33639248 : Int64) kc_X5_176 dX5_goes_136 ?_
  refine n_iconst hC (4 : Int32) (by decide) dX5_goes_139 ?_
  refine n_callVv (As := [.long (33639248 : Int64), .int (4 : Int32)]) (rest := []) h0 rfl (by decide) hC (c_X5_put l M a0 (33639248 : Int64) (4 : Int32) h0) my_X5_put ml_X5_131 rfl rfl rfl (Nat.le_of_ble_eq_true rfl) ⟨by decide, by decide⟩ dX5_goes_140 (fun r21 M22 => ?_)
  refine n_aload_n hC 0 rfl dX5_goes_143 ?_
  refine n_ldc2 hC (20 : Int64) kc_X5_142 dX5_goes_144 ?_
  refine n_iconst hC (2 : Int32) (by decide) dX5_goes_147 ?_
  refine n_callVv (As := [.long (20 : Int64), .int (2 : Int32)]) (rest := []) h0 rfl (by decide) hC (c_X5_put l M22 a0 (20 : Int64) (2 : Int32) h0) my_X5_put ml_X5_131 rfl rfl rfl (Nat.le_of_ble_eq_true rfl) ⟨by decide, by decide⟩ dX5_goes_148 (fun r23 M24 => ?_)
  refine n_aload_n hC 0 rfl dX5_goes_151 ?_
  refine n_iload hC 2 rfl dX5_goes_152 ?_
  refine n_iconst hC (0 : Int32) (by decide) dX5_goes_154 ?_
  refine n_callVv (As := [.int x5, .int (0 : Int32)]) (rest := []) h0 rfl (by decide) hC (c_X5_putFields l M24 a0 x5 (0 : Int32) h0) my_X5_putFields ml_X5_154 rfl rfl rfl (Nat.le_of_ble_eq_true rfl) ⟨by decide, by decide⟩ dX5_goes_155 (fun r25 M26 => ?_)
  refine n_aload_n hC 0 rfl dX5_goes_158 ?_
  refine n_lconst hC (0 : Int64) (by decide) dX5_goes_159 ?_
  refine n_bipush hC (6 : Int32) (by decide) dX5_goes_160 ?_
  refine n_callVv (As := [.long (0 : Int64), .int (6 : Int32)]) (rest := []) h0 rfl (by decide) hC (c_X5_put l M26 a0 (0 : Int64) (6 : Int32) h0) my_X5_put ml_X5_131 rfl rfl rfl (Nat.le_of_ble_eq_true rfl) ⟨by decide, by decide⟩ dX5_goes_162 (fun r27 M28 => ?_)
  refine n_aload_n hC 0 rfl dX5_goes_165 ?_
  refine n_aload_n hC 0 rfl dX5_goes_166 ?_
  refine n_get hC clX5 h0 9 (.ref (b + (rf a0 9))) (by decide) rfl fl_X5_33 rfl dX5_goes_167 ?_
  refine n_iload hC 2 rfl dX5_goes_170 ?_
  refine n_iald hC (kf_X5_9 h0) dX5_goes_172 (fun g29 => ?_)
  refine n_i2l hC dX5_goes_173 ?_
  refine n_iconst hC (4 : Int32) (by decide) dX5_goes_174 ?_
  refine n_callVv (As := [.long ((M28.1 (rf a0 9) x5.toNatClampNeg)).toInt64, .int (4 : Int32)]) (rest := []) h0 rfl (by decide) hC (c_X5_put l M28 a0 (((M28.1 (rf a0 9) x5.toNatClampNeg)).toInt64) (4 : Int32) h0) my_X5_put ml_X5_131 rfl rfl rfl (Nat.le_of_ble_eq_true rfl) ⟨by decide, by decide⟩ dX5_goes_175 (fun r30 M31 => ?_)
  refine n_aload_n hC 0 rfl dX5_goes_178 ?_
  refine n_aload_n hC 0 rfl dX5_goes_179 ?_
  refine n_get hC clX5 h0 20 (.ref (b + (rf a0 20))) (by decide) rfl fl_X5_55 rfl dX5_goes_180 ?_
  refine n_iload hC 2 rfl dX5_goes_183 ?_
  refine n_iald hC (kf_X5_20 h0) dX5_goes_185 (fun g32 => ?_)
  refine n_i2l hC dX5_goes_186 ?_
  refine n_iconst hC (4 : Int32) (by decide) dX5_goes_187 ?_
  refine n_callVv (As := [.long ((M31.1 (rf a0 20) x5.toNatClampNeg)).toInt64, .int (4 : Int32)]) (rest := []) h0 rfl (by decide) hC (c_X5_put l M31 a0 (((M31.1 (rf a0 20) x5.toNatClampNeg)).toInt64) (4 : Int32) h0) my_X5_put ml_X5_131 rfl rfl rfl (Nat.le_of_ble_eq_true rfl) ⟨by decide, by decide⟩ dX5_goes_188 (fun r33 M34 => ?_)
  refine n_aload_n hC 0 rfl dX5_goes_191 ?_
  refine n_iload hC 2 rfl dX5_goes_192 ?_
  refine n_callVv (As := [.int x5]) (rest := []) h0 rfl (by decide) hC (c_X5_putName l M34 a0 x5 h0) my_X5_putName ml_X5_158 rfl rfl rfl (Nat.le_of_ble_eq_true rfl) ⟨by decide, by decide⟩ dX5_goes_194 (fun r35 M36 => ?_)
  refine n_iincB hC (1 : Int32) (by decide) (fun v37 => [(5, .int v37), (0, .ref (b + a0)), (4, .int x4)]) 2 rfl (by decide) (fun _ => rfl) dX5_goes_197 (fun v37 => ?_)
  refine n_goto hC (tgt := 126) (by decide) dX5_goes_200 ?_
  exact GN.sub [1, 2, 0] rfl (hkb (v37, M36))
def l_X5_goes_126 (kx : Int32 → Me → Option (Int32 × Me)) (a0 : Nat) (x4 : Int32) (x5 : Int32) (M : Me) : Option (Int32 × Me) := lp (fun kb z => g_X5_goes_126 kx kb a0 x4 z.1 z.2) FU (x5, M)
set_option maxHeartbeats 4000000 in
set_option maxRecDepth 100000 in
theorem b_X5_goes_126 {p : Program} {l : Launch} {e : Env} {s : State} {m : MethodId} {args : Array Value} {below : List Frame} {meth : Method} {c : Code} {D : va_G} {T : Nat → ClassId} {b : Nat} (hC : CX p s m args meth c cX5_goes 7 RX5 (some .int) D T) (a0 : Nat) (x4 : Int32) (x5 : Int32) (h0 : kd a0 = 5) (kx : Int32 → Me → Option (Int32 × Me)) (hkx : ∀ (x5 : Int32) (M : Me), GN p l e (k2_rm 4 91) s m args below meth c D T b 7 eI 203 [(0, .ref (b + a0)), (4, .int x4)] [] M (kx x5 M)) (M : Me) : GN p l e (k2_rm 4 91) s m args below meth c D T b 7 eI 126 [(0, .ref (b + a0)), (4, .int x4), (5, .int x5)] [] M (l_X5_goes_126 kx a0 x4 x5 M) := by
  exact n_loop (σ := Int32 × Me) (fun z => [(0, .ref (b + a0)), (4, .int x4), (5, .int z.1)]) (fun z => z.2) (fun kb hkb z => b_X5_goes_126_g hC a0 x4 z.1 h0 kx hkx kb hkb z.2) FU (x5, M)
def g_X5_goes_275 (kx : Int32 → Me → Option (Int32 × Me)) (kb : Int32 × Me → Option (Int32 × Me)) (a0 : Nat) (x6 : Int32) (M : Me) : Option (Int32 × Me) := if (M.1 a0 22) ≤ x6 then kx x6 M else chk x6 (ln (rf a0 21)) (cal (f_X5_put M a0 (((M.1 (rf a0 21) x6.toNatClampNeg)).toInt64) (1 : Int32)) (fun _ M57 => bndV (x6 + (1 : Int32)) (fun v58 => kb (v58, M57))))
set_option maxHeartbeats 4000000 in
set_option maxRecDepth 100000 in
theorem b_X5_goes_275_g {p : Program} {l : Launch} {e : Env} {s : State} {m : MethodId} {args : Array Value} {below : List Frame} {meth : Method} {c : Code} {D : va_G} {T : Nat → ClassId} {b : Nat} (hC : CX p s m args meth c cX5_goes 7 RX5 (some .int) D T) (a0 : Nat) (x6 : Int32) (h0 : kd a0 = 5) (kx : Int32 → Me → Option (Int32 × Me)) (hkx : ∀ (x6 : Int32) (M : Me), GN p l e (k2_rm 4 91) s m args below meth c D T b 7 eI 303 [(0, .ref (b + a0))] [] M (kx x6 M)) (kb : Int32 × Me → Option (Int32 × Me)) (hkb : ∀ z : Int32 × Me, GN p l e (k2_rm 4 91) s m args below meth c D T b 7 eI 275 [(0, .ref (b + a0)), (6, .int z.1)] [] z.2 (kb z)) (M : Me) : GN p l e (k2_rm 4 91) s m args below meth c D T b 7 eI 275 [(0, .ref (b + a0)), (6, .int x6)] [] M (g_X5_goes_275 kx kb a0 x6 M) := by
  unfold g_X5_goes_275
  refine n_iload hC 1 rfl dX5_goes_275 ?_
  refine n_aload_n hC 0 rfl dX5_goes_277 ?_
  refine n_get hC clX5 h0 22 (.int (M.1 a0 22)) (by decide) rfl fl_X5_118 rfl dX5_goes_278 ?_
  refine n_icmp_ge hC 303 dX5_goes_281 (by decide) ?_ ?_
  · exact GN.sub [0] rfl (hkx x6 M)
  refine n_aload_n hC 0 rfl dX5_goes_284 ?_
  refine n_aload_n hC 0 rfl dX5_goes_285 ?_
  refine n_get hC clX5 h0 21 (.ref (b + (rf a0 21))) (by decide) rfl fl_X5_115 rfl dX5_goes_286 ?_
  refine n_iload hC 1 rfl dX5_goes_289 ?_
  refine n_iald hC (kf_X5_21 h0) dX5_goes_291 (fun g55 => ?_)
  refine n_i2l hC dX5_goes_292 ?_
  refine n_iconst hC (1 : Int32) (by decide) dX5_goes_293 ?_
  refine n_callVv (As := [.long ((M.1 (rf a0 21) x6.toNatClampNeg)).toInt64, .int (1 : Int32)]) (rest := []) h0 rfl (by decide) hC (c_X5_put l M a0 (((M.1 (rf a0 21) x6.toNatClampNeg)).toInt64) (1 : Int32) h0) my_X5_put ml_X5_131 rfl rfl rfl (Nat.le_of_ble_eq_true rfl) ⟨by decide, by decide⟩ dX5_goes_294 (fun r56 M57 => ?_)
  refine n_iincB hC (1 : Int32) (by decide) (fun v58 => [(6, .int v58), (0, .ref (b + a0))]) 1 rfl (by decide) (fun _ => rfl) dX5_goes_297 (fun v58 => ?_)
  refine n_goto hC (tgt := 275) (by decide) dX5_goes_300 ?_
  exact GN.sub [1, 0] rfl (hkb (v58, M57))
def l_X5_goes_275 (kx : Int32 → Me → Option (Int32 × Me)) (a0 : Nat) (x6 : Int32) (M : Me) : Option (Int32 × Me) := lp (fun kb z => g_X5_goes_275 kx kb a0 z.1 z.2) FU (x6, M)
set_option maxHeartbeats 4000000 in
set_option maxRecDepth 100000 in
theorem b_X5_goes_275 {p : Program} {l : Launch} {e : Env} {s : State} {m : MethodId} {args : Array Value} {below : List Frame} {meth : Method} {c : Code} {D : va_G} {T : Nat → ClassId} {b : Nat} (hC : CX p s m args meth c cX5_goes 7 RX5 (some .int) D T) (a0 : Nat) (x6 : Int32) (h0 : kd a0 = 5) (kx : Int32 → Me → Option (Int32 × Me)) (hkx : ∀ (x6 : Int32) (M : Me), GN p l e (k2_rm 4 91) s m args below meth c D T b 7 eI 303 [(0, .ref (b + a0))] [] M (kx x6 M)) (M : Me) : GN p l e (k2_rm 4 91) s m args below meth c D T b 7 eI 275 [(0, .ref (b + a0)), (6, .int x6)] [] M (l_X5_goes_275 kx a0 x6 M) := by
  exact n_loop (σ := Int32 × Me) (fun z => [(0, .ref (b + a0)), (6, .int z.1)]) (fun z => z.2) (fun kb hkb z => b_X5_goes_275_g hC a0 z.1 h0 kx hkx kb hkb z.2) FU (x6, M)
def f_X5_goes (M : Me) (a0 : Nat) (x1 : Int32) (x2 : Int32) : Option (Int32 × Me) := cal (f_X5_isBare M a0) (fun r1 M2 => if r1 = (0 : Int32) then bndV ((x2 + (22 : Int32)) + (M2.1 a0 22)) (fun v3 => l_X5_goes_26 (fun v10 v11 M12 => if v10 ≤ (2000 : Int32) then bnd (sI M12 a0 25 x2) (fun M13 => l_X5_goes_85 (fun v18 M19 => bndV (M19.1 a0 25) (fun v20 => l_X5_goes_126 (fun v38 M39 => bndV (M39.1 a0 25) (fun v40 => cal (f_X5_put M39 a0 (101010256 : Int64) (4 : Int32)) (fun _ M42 => cal (f_X5_put M42 a0 (0 : Int64) (4 : Int32)) (fun _ M44 => cal (f_X5_put M44 a0 (((M44.1 a0 2)).toInt64) (2 : Int32)) (fun _ M46 => cal (f_X5_put M46 a0 (((M46.1 a0 2)).toInt64) (2 : Int32)) (fun _ M48 => cal (f_X5_put M48 a0 (((v40 - v20)).toInt64) (4 : Int32)) (fun _ M50 => cal (f_X5_put M50 a0 v20.toInt64 (4 : Int32)) (fun _ M52 => cal (f_X5_put M52 a0 (((M52.1 a0 22)).toInt64) (2 : Int32)) (fun _ M54 => l_X5_goes_275 (fun v59 M60 => bnd (sI M60 a0 24 (M60.1 a0 25)) (fun M61 => some ((M61.1 a0 24), M61))) a0 (0 : Int32) M54))))))))) a0 v20 (0 : Int32) M19)) a0 x1 M13) else some ((-5 : Int32), M12)) a0 x1 x2 v3 (0 : Int32) M2) else cal (f_X5_fails M2 a0 (1 : Int32)) (fun r62 M63 => some (r62, M63)))
set_option maxHeartbeats 4000000 in
set_option maxRecDepth 100000 in
theorem c_X5_goes (l : Launch) (M : Me) (a0 : Nat) (x1 : Int32) (x2 : Int32) (h0 : kd a0 = 5) : CN l yX5_goes cX5_goes 7 (some .int) (k2_rm 4 91) eI (fun b => [.ref (b + a0), .int x1, .int x2]) M (f_X5_goes M a0 x1 x2) := by
  refine CN.of RX5 (fun b => [(0, .ref (b + a0)), (1, .int x1), (2, .int x2)]) (by decide) rfl (fun b => Nat.le_of_ble_eq_true rfl) (fun b => rfl) ?_
  intro p e s m args below meth c D T b hC
  unfold f_X5_goes
  refine n_aload_n hC 0 rfl dX5_goes_0 ?_
  refine n_callVi (As := []) (rest := []) h0 rfl (by decide) hC (c_X5_isBare l M a0 h0) my_X5_isBare ml_X5_163 rfl rfl rfl (Nat.le_of_ble_eq_true rfl) ⟨by decide, by decide⟩ dX5_goes_1 (fun r1 M2 => ?_)
  refine n_if_eq hC 13 dX5_goes_4 (by decide) ?_ ?_
  · refine n_iload_n hC 2 rfl dX5_goes_13 ?_
    refine n_bipush hC (22 : Int32) (by decide) dX5_goes_14 ?_
    refine n_iadd hC dX5_goes_16 ?_
    refine n_aload_n hC 0 rfl dX5_goes_17 ?_
    refine n_get hC clX5 h0 22 (.int (M2.1 a0 22)) (by decide) rfl fl_X5_118 rfl dX5_goes_18 ?_
    refine n_iadd hC dX5_goes_21 ?_
    refine n_istB_n hC rfl (fun v3 => [(3, .int v3), (0, .ref (b + a0)), (1, .int x1), (2, .int x2)]) (by decide) (fun _ => rfl) dX5_goes_22 (fun v3 => ?_)
    refine n_iconst hC (0 : Int32) (by decide) dX5_goes_23 ?_
    refine n_istore hC [(4, .int (0 : Int32)), (3, .int v3), (0, .ref (b + a0)), (1, .int x1), (2, .int x2)] (by decide) rfl dX5_goes_24 ?_
    refine GN.sub [2, 3, 4, 1, 0] rfl (b_X5_goes_26 hC a0 x1 x2 v3 (0 : Int32) h0 _ (fun v10 v11 M12 => ?_) M2)
    refine n_iload_n hC 3 rfl dX5_goes_67 ?_
    refine n_sipush hC (2000 : Int32) (by decide) dX5_goes_68 ?_
    refine n_icmp_le hC 77 dX5_goes_71 (by decide) ?_ ?_
    · refine n_aload_n hC 0 rfl dX5_goes_77 ?_
      refine n_iload_n hC 2 rfl dX5_goes_78 ?_
      refine n_putI hC clX5 h0 25 (by decide) rfl rfl rfl fl_X5_125 dX5_goes_79 (fun M13 => ?_)
      refine n_iload_n hC 1 rfl dX5_goes_82 ?_
      refine n_istore hC [(4, .int x1), (0, .ref (b + a0)), (1, .int x1), (2, .int x2), (3, .int v10)] (by decide) rfl dX5_goes_83 ?_
      refine GN.sub [1, 0] rfl (b_X5_goes_85 hC a0 x1 h0 _ (fun v18 M19 => ?_) M13)
      refine n_aload_n hC 0 rfl dX5_goes_117 ?_
      refine n_get hC clX5 h0 25 (.int (M19.1 a0 25)) (by decide) rfl fl_X5_125 rfl dX5_goes_118 ?_
      refine n_istB hC (fun v20 => [(4, .int v20), (0, .ref (b + a0))]) (by decide) (fun _ => rfl) dX5_goes_121 (fun v20 => ?_)
      refine n_iconst hC (0 : Int32) (by decide) dX5_goes_123 ?_
      refine n_istore hC [(5, .int (0 : Int32)), (4, .int v20), (0, .ref (b + a0))] (by decide) rfl dX5_goes_124 ?_
      refine GN.sub [2, 1, 0] rfl (b_X5_goes_126 hC a0 v20 (0 : Int32) h0 _ (fun v38 M39 => ?_) M19)
      refine n_aload_n hC 0 rfl dX5_goes_203 ?_
      refine n_get hC clX5 h0 25 (.int (M39.1 a0 25)) (by decide) rfl fl_X5_125 rfl dX5_goes_204 ?_
      refine n_istB hC (fun v40 => [(5, .int v40), (0, .ref (b + a0)), (4, .int v20)]) (by decide) (fun _ => rfl) dX5_goes_207 (fun v40 => ?_)
      refine n_aload_n hC 1 rfl dX5_goes_209 ?_
      refine n_ldc2 hC (101010256 : Int64) kc_X5_178 dX5_goes_210 ?_
      refine n_iconst hC (4 : Int32) (by decide) dX5_goes_213 ?_
      refine n_callVv (As := [.long (101010256 : Int64), .int (4 : Int32)]) (rest := []) h0 rfl (by decide) hC (c_X5_put l M39 a0 (101010256 : Int64) (4 : Int32) h0) my_X5_put ml_X5_131 rfl rfl rfl (Nat.le_of_ble_eq_true rfl) ⟨by decide, by decide⟩ dX5_goes_214 (fun r41 M42 => ?_)
      refine n_aload_n hC 1 rfl dX5_goes_217 ?_
      refine n_lconst hC (0 : Int64) (by decide) dX5_goes_218 ?_
      refine n_iconst hC (4 : Int32) (by decide) dX5_goes_219 ?_
      refine n_callVv (As := [.long (0 : Int64), .int (4 : Int32)]) (rest := []) h0 rfl (by decide) hC (c_X5_put l M42 a0 (0 : Int64) (4 : Int32) h0) my_X5_put ml_X5_131 rfl rfl rfl (Nat.le_of_ble_eq_true rfl) ⟨by decide, by decide⟩ dX5_goes_220 (fun r43 M44 => ?_)
      refine n_aload_n hC 1 rfl dX5_goes_223 ?_
      refine n_aload_n hC 1 rfl dX5_goes_224 ?_
      refine n_get hC clX5 h0 2 (.int (M44.1 a0 2)) (by decide) rfl fl_X5_10 rfl dX5_goes_225 ?_
      refine n_i2l hC dX5_goes_228 ?_
      refine n_iconst hC (2 : Int32) (by decide) dX5_goes_229 ?_
      refine n_callVv (As := [.long ((M44.1 a0 2)).toInt64, .int (2 : Int32)]) (rest := []) h0 rfl (by decide) hC (c_X5_put l M44 a0 (((M44.1 a0 2)).toInt64) (2 : Int32) h0) my_X5_put ml_X5_131 rfl rfl rfl (Nat.le_of_ble_eq_true rfl) ⟨by decide, by decide⟩ dX5_goes_230 (fun r45 M46 => ?_)
      refine n_aload_n hC 1 rfl dX5_goes_233 ?_
      refine n_aload_n hC 1 rfl dX5_goes_234 ?_
      refine n_get hC clX5 h0 2 (.int (M46.1 a0 2)) (by decide) rfl fl_X5_10 rfl dX5_goes_235 ?_
      refine n_i2l hC dX5_goes_238 ?_
      refine n_iconst hC (2 : Int32) (by decide) dX5_goes_239 ?_
      refine n_callVv (As := [.long ((M46.1 a0 2)).toInt64, .int (2 : Int32)]) (rest := []) h0 rfl (by decide) hC (c_X5_put l M46 a0 (((M46.1 a0 2)).toInt64) (2 : Int32) h0) my_X5_put ml_X5_131 rfl rfl rfl (Nat.le_of_ble_eq_true rfl) ⟨by decide, by decide⟩ dX5_goes_240 (fun r47 M48 => ?_)
      refine n_aload_n hC 1 rfl dX5_goes_243 ?_
      refine n_iload hC 0 rfl dX5_goes_244 ?_
      refine n_iload hC 2 rfl dX5_goes_246 ?_
      refine n_isub hC dX5_goes_248 ?_
      refine n_i2l hC dX5_goes_249 ?_
      refine n_iconst hC (4 : Int32) (by decide) dX5_goes_250 ?_
      refine n_callVv (As := [.long ((v40 - v20)).toInt64, .int (4 : Int32)]) (rest := []) h0 rfl (by decide) hC (c_X5_put l M48 a0 (((v40 - v20)).toInt64) (4 : Int32) h0) my_X5_put ml_X5_131 rfl rfl rfl (Nat.le_of_ble_eq_true rfl) ⟨by decide, by decide⟩ dX5_goes_251 (fun r49 M50 => ?_)
      refine n_aload_n hC 1 rfl dX5_goes_254 ?_
      refine n_iload hC 2 rfl dX5_goes_255 ?_
      refine n_i2l hC dX5_goes_257 ?_
      refine n_iconst hC (4 : Int32) (by decide) dX5_goes_258 ?_
      refine n_callVv (As := [.long v20.toInt64, .int (4 : Int32)]) (rest := []) h0 rfl (by decide) hC (c_X5_put l M50 a0 v20.toInt64 (4 : Int32) h0) my_X5_put ml_X5_131 rfl rfl rfl (Nat.le_of_ble_eq_true rfl) ⟨by decide, by decide⟩ dX5_goes_259 (fun r51 M52 => ?_)
      refine n_aload_n hC 1 rfl dX5_goes_262 ?_
      refine n_aload_n hC 1 rfl dX5_goes_263 ?_
      refine n_get hC clX5 h0 22 (.int (M52.1 a0 22)) (by decide) rfl fl_X5_118 rfl dX5_goes_264 ?_
      refine n_i2l hC dX5_goes_267 ?_
      refine n_iconst hC (2 : Int32) (by decide) dX5_goes_268 ?_
      refine n_callVv (As := [.long ((M52.1 a0 22)).toInt64, .int (2 : Int32)]) (rest := []) h0 rfl (by decide) hC (c_X5_put l M52 a0 (((M52.1 a0 22)).toInt64) (2 : Int32) h0) my_X5_put ml_X5_131 rfl rfl rfl (Nat.le_of_ble_eq_true rfl) ⟨by decide, by decide⟩ dX5_goes_269 (fun r53 M54 => ?_)
      refine n_iconst hC (0 : Int32) (by decide) dX5_goes_272 ?_
      refine n_istore hC [(6, .int (0 : Int32)), (5, .int v40), (0, .ref (b + a0)), (4, .int v20)] (by decide) rfl dX5_goes_273 ?_
      refine GN.sub [2, 0] rfl (b_X5_goes_275 hC a0 (0 : Int32) h0 _ (fun v59 M60 => ?_) M54)
      refine n_aload_n hC 0 rfl dX5_goes_303 ?_
      refine n_aload_n hC 0 rfl dX5_goes_304 ?_
      refine n_get hC clX5 h0 25 (.int (M60.1 a0 25)) (by decide) rfl fl_X5_125 rfl dX5_goes_305 ?_
      refine n_putI hC clX5 h0 24 (by decide) rfl rfl rfl fl_X5_180 dX5_goes_308 (fun M61 => ?_)
      refine n_aload_n hC 0 rfl dX5_goes_311 ?_
      refine n_get hC clX5 h0 24 (.int (M61.1 a0 24)) (by decide) rfl fl_X5_180 rfl dX5_goes_312 ?_
      exact n_iret hC dX5_goes_315
    refine n_bipush hC (-5 : Int32) (by decide) dX5_goes_74 ?_
    exact n_iret hC dX5_goes_76
  refine n_aload_n hC 0 rfl dX5_goes_7 ?_
  refine n_iconst hC (1 : Int32) (by decide) dX5_goes_8 ?_
  refine n_callVi (As := [.int (1 : Int32)]) (rest := []) h0 rfl (by decide) hC (c_X5_fails l M2 a0 (1 : Int32) h0) my_X5_fails ml_X5_85 rfl rfl rfl (Nat.le_of_ble_eq_true rfl) ⟨by decide, by decide⟩ dX5_goes_9 (fun r62 M63 => ?_)
  exact n_iret hC dX5_goes_12
def f_X5_write (M : Me) (a0 : Nat) : Option (Int32 × Me) := bnd (sI M a0 0 (0 : Int32)) (fun M1 => cal (f_X5_goes M1 a0 (0 : Int32) (0 : Int32)) (fun r2 M3 => some (r2, M3)))
set_option maxHeartbeats 4000000 in
set_option maxRecDepth 100000 in
theorem c_X5_write (l : Launch) (M : Me) (a0 : Nat) (h0 : kd a0 = 5) : CN l yX5_write cX5_write 1 (some .int) (k2_rm 5 117) eI (fun b => [.ref (b + a0)]) M (f_X5_write M a0) := by
  refine CN.of RX5 (fun b => [(0, .ref (b + a0))]) (by decide) rfl (fun b => Nat.le_of_ble_eq_true rfl) (fun b => rfl) ?_
  intro p e s m args below meth c D T b hC
  unfold f_X5_write
  refine n_aload_n hC 0 rfl dX5_write_0 ?_
  refine n_iconst hC (0 : Int32) (by decide) dX5_write_1 ?_
  refine n_putI hC clX5 h0 0 (by decide) rfl rfl rfl fl_X5_1 dX5_write_2 (fun M1 => ?_)
  refine n_aload_n hC 0 rfl dX5_write_5 ?_
  refine n_iconst hC (0 : Int32) (by decide) dX5_write_6 ?_
  refine n_iconst hC (0 : Int32) (by decide) dX5_write_7 ?_
  refine n_callVi (As := [.int (0 : Int32), .int (0 : Int32)]) (rest := []) h0 rfl (by decide) hC (c_X5_goes l M1 a0 (0 : Int32) (0 : Int32) h0) my_X5_goes ml_X5_183 rfl rfl rfl (Nat.le_of_ble_eq_true rfl) ⟨by decide, by decide⟩ dX5_write_8 (fun r2 M3 => ?_)
  exact n_iret hC dX5_write_11
def g_X5_add_24 (kx : Int32 → Me → Option (Int32 × Me)) (kb : Int32 × Me → Option (Int32 × Me)) (a0 : Nat) (x1 : Int32) (x2 : Int32) (M : Me) : Option (Int32 × Me) := if x1 ≤ x2 then kx x2 M else chk x2 (ln (rf a0 20)) (if (0 : Int32) ≤ (M.1 (rf a0 20) x2.toNatClampNeg) then bndV (x2 + (1 : Int32)) (fun v5 => kb (v5, M)) else some ((-4 : Int32), M))
set_option maxHeartbeats 4000000 in
set_option maxRecDepth 100000 in
theorem b_X5_add_24_g {p : Program} {l : Launch} {e : Env} {s : State} {m : MethodId} {args : Array Value} {below : List Frame} {meth : Method} {c : Code} {D : va_G} {T : Nat → ClassId} {b : Nat} (hC : CX p s m args meth c cX5_add 3 RX5 (some .int) D T) (a0 : Nat) (x1 : Int32) (x2 : Int32) (h0 : kd a0 = 5) (kx : Int32 → Me → Option (Int32 × Me)) (hkx : ∀ (x2 : Int32) (M : Me), GN p l e (k2_rm 5 117) s m args below meth c D T b 3 eI 47 [(0, .ref (b + a0)), (1, .int x1)] [] M (kx x2 M)) (kb : Int32 × Me → Option (Int32 × Me)) (hkb : ∀ z : Int32 × Me, GN p l e (k2_rm 5 117) s m args below meth c D T b 3 eI 24 [(0, .ref (b + a0)), (1, .int x1), (2, .int z.1)] [] z.2 (kb z)) (M : Me) : GN p l e (k2_rm 5 117) s m args below meth c D T b 3 eI 24 [(0, .ref (b + a0)), (1, .int x1), (2, .int x2)] [] M (g_X5_add_24 kx kb a0 x1 x2 M) := by
  unfold g_X5_add_24
  refine n_iload_n hC 2 rfl dX5_add_24 ?_
  refine n_iload_n hC 1 rfl dX5_add_25 ?_
  refine n_icmp_ge hC 47 dX5_add_26 (by decide) ?_ ?_
  · exact GN.sub [0, 1] rfl (hkx x2 M)
  refine n_aload_n hC 0 rfl dX5_add_29 ?_
  refine n_get hC clX5 h0 20 (.ref (b + (rf a0 20))) (by decide) rfl fl_X5_55 rfl dX5_add_30 ?_
  refine n_iload_n hC 2 rfl dX5_add_33 ?_
  refine n_iald hC (kf_X5_20 h0) dX5_add_34 (fun g4 => ?_)
  refine n_if_ge hC 41 dX5_add_35 (by decide) ?_ ?_
  · refine n_iincB hC (1 : Int32) (by decide) (fun v5 => [(2, .int v5), (0, .ref (b + a0)), (1, .int x1)]) 2 rfl (by decide) (fun _ => rfl) dX5_add_41 (fun v5 => ?_)
    refine n_goto hC (tgt := 24) (by decide) dX5_add_44 ?_
    exact GN.sub [1, 2, 0] rfl (hkb (v5, M))
  refine n_bipush hC (-4 : Int32) (by decide) dX5_add_38 ?_
  exact n_iret hC dX5_add_40
def l_X5_add_24 (kx : Int32 → Me → Option (Int32 × Me)) (a0 : Nat) (x1 : Int32) (x2 : Int32) (M : Me) : Option (Int32 × Me) := lp (fun kb z => g_X5_add_24 kx kb a0 x1 z.1 z.2) FU (x2, M)
set_option maxHeartbeats 4000000 in
set_option maxRecDepth 100000 in
theorem b_X5_add_24 {p : Program} {l : Launch} {e : Env} {s : State} {m : MethodId} {args : Array Value} {below : List Frame} {meth : Method} {c : Code} {D : va_G} {T : Nat → ClassId} {b : Nat} (hC : CX p s m args meth c cX5_add 3 RX5 (some .int) D T) (a0 : Nat) (x1 : Int32) (x2 : Int32) (h0 : kd a0 = 5) (kx : Int32 → Me → Option (Int32 × Me)) (hkx : ∀ (x2 : Int32) (M : Me), GN p l e (k2_rm 5 117) s m args below meth c D T b 3 eI 47 [(0, .ref (b + a0)), (1, .int x1)] [] M (kx x2 M)) (M : Me) : GN p l e (k2_rm 5 117) s m args below meth c D T b 3 eI 24 [(0, .ref (b + a0)), (1, .int x1), (2, .int x2)] [] M (l_X5_add_24 kx a0 x1 x2 M) := by
  exact n_loop (σ := Int32 × Me) (fun z => [(0, .ref (b + a0)), (1, .int x1), (2, .int z.1)]) (fun z => z.2) (fun kb hkb z => b_X5_add_24_g hC a0 x1 z.1 h0 kx hkx kb hkb z.2) FU (x2, M)
def f_X5_add (M : Me) (a0 : Nat) (x1 : Int32) : Option (Int32 × Me) := bnd (sI M a0 0 (0 : Int32)) (fun M1 => cal (f_X5_in M1 x1.toInt64 (0 : Int64) (((M1.1 a0 2)).toInt64)) (fun r2 M3 => if r2 = (0 : Int32) then some ((-2 : Int32), M3) else l_X5_add_24 (fun v6 M7 => cal (f_X5_goes M7 a0 x1 (M7.1 a0 24)) (fun r8 M9 => some (r8, M9))) a0 x1 (0 : Int32) M3))
set_option maxHeartbeats 4000000 in
set_option maxRecDepth 100000 in
theorem c_X5_add (l : Launch) (M : Me) (a0 : Nat) (x1 : Int32) (h0 : kd a0 = 5) : CN l yX5_add cX5_add 3 (some .int) (k2_rm 5 117) eI (fun b => [.ref (b + a0), .int x1]) M (f_X5_add M a0 x1) := by
  refine CN.of RX5 (fun b => [(0, .ref (b + a0)), (1, .int x1)]) (by decide) rfl (fun b => Nat.le_of_ble_eq_true rfl) (fun b => rfl) ?_
  intro p e s m args below meth c D T b hC
  unfold f_X5_add
  refine n_aload_n hC 0 rfl dX5_add_0 ?_
  refine n_iconst hC (0 : Int32) (by decide) dX5_add_1 ?_
  refine n_putI hC clX5 h0 0 (by decide) rfl rfl rfl fl_X5_1 dX5_add_2 (fun M1 => ?_)
  refine n_iload_n hC 1 rfl dX5_add_5 ?_
  refine n_i2l hC dX5_add_6 ?_
  refine n_lconst hC (0 : Int64) (by decide) dX5_add_7 ?_
  refine n_aload_n hC 0 rfl dX5_add_8 ?_
  refine n_get hC clX5 h0 2 (.int (M1.1 a0 2)) (by decide) rfl fl_X5_10 rfl dX5_add_9 ?_
  refine n_i2l hC dX5_add_12 ?_
  refine n_callSi (As := [.long x1.toInt64, .long (0 : Int64), .long ((M1.1 a0 2)).toInt64]) (rest := []) hC (c_X5_in l M1 x1.toInt64 (0 : Int64) (((M1.1 a0 2)).toInt64)) my_X5_in ml_X5_13 rfl rfl rfl (Nat.le_of_ble_eq_true rfl) ⟨by decide, by decide⟩ dX5_add_13 (fun r2 M3 => ?_)
  refine n_if_ne hC 22 dX5_add_16 (by decide) ?_ ?_
  · refine n_iconst hC (0 : Int32) (by decide) dX5_add_22 ?_
    refine n_istore_n hC rfl [(2, .int (0 : Int32)), (0, .ref (b + a0)), (1, .int x1)] (by decide) rfl dX5_add_23 ?_
    refine GN.sub [1, 2, 0] rfl (b_X5_add_24 hC a0 x1 (0 : Int32) h0 _ (fun v6 M7 => ?_) M3)
    refine n_aload_n hC 0 rfl dX5_add_47 ?_
    refine n_iload_n hC 1 rfl dX5_add_48 ?_
    refine n_aload_n hC 0 rfl dX5_add_49 ?_
    refine n_get hC clX5 h0 24 (.int (M7.1 a0 24)) (by decide) rfl fl_X5_180 rfl dX5_add_50 ?_
    refine n_callVi (As := [.int x1, .int (M7.1 a0 24)]) (rest := []) h0 rfl (by decide) hC (c_X5_goes l M7 a0 x1 (M7.1 a0 24) h0) my_X5_goes ml_X5_183 rfl rfl rfl (Nat.le_of_ble_eq_true rfl) ⟨by decide, by decide⟩ dX5_add_53 (fun r8 M9 => ?_)
    exact n_iret hC dX5_add_56
  refine n_bipush hC (-2 : Int32) (by decide) dX5_add_19 ?_
  exact n_iret hC dX5_add_21
def j_X5_want_22 (a0 : Nat) (M : Me) : Option (Int32 × Me) := if (M.1 a0 27) = (0 : Int32) then chZ (1 : Int32) (some ((1 : Int32), M)) else chZ (0 : Int32) (some ((0 : Int32), M))
set_option maxHeartbeats 4000000 in
set_option maxRecDepth 100000 in
theorem b_X5_want_22 {p : Program} {l : Launch} {e : Env} {s : State} {m : MethodId} {args : Array Value} {below : List Frame} {meth : Method} {c : Code} {D : va_G} {T : Nat → ClassId} {b : Nat} (hC : CX p s m args meth c cX5_want 5 RX5 (some .boolean) D T) (a0 : Nat) (h0 : kd a0 = 5) (M : Me) : GN p l e (k2_rm 0 0) s m args below meth c D T b 5 eI 22 [(0, .ref (b + a0))] [] M (j_X5_want_22 a0 M) := by
  unfold j_X5_want_22
  refine n_aload_n hC 0 rfl dX5_want_22 ?_
  refine n_get hC clX5 h0 27 (.int (M.1 a0 27)) (by decide) rfl fl_X5_187 rfl dX5_want_23 ?_
  refine n_if_ne hC 33 dX5_want_26 (by decide) ?_ ?_
  · refine n_iconst hC (0 : Int32) (by decide) dX5_want_33 ?_
    exact n_zret hC dX5_want_34
  refine n_iconst hC (1 : Int32) (by decide) dX5_want_29 ?_
  refine n_goto hC (tgt := 34) (by decide) dX5_want_30 ?_
  exact n_zret hC dX5_want_34
def f_X5_want (M : Me) (a0 : Nat) (x1 : Int32) (x2 : Int32) (y3 : Int64) : Option (Int32 × Me) := if x1 = (0 : Int32) then if (M.1 a0 27) = (0 : Int32) then bnd (sI M a0 27 x2) (fun M1 => bnd (sI M1 a0 28 y3.toInt32) (fun M2 => j_X5_want_22 a0 M2)) else j_X5_want_22 a0 M else j_X5_want_22 a0 M
set_option maxHeartbeats 4000000 in
set_option maxRecDepth 100000 in
theorem c_X5_want (l : Launch) (M : Me) (a0 : Nat) (x1 : Int32) (x2 : Int32) (y3 : Int64) (h0 : kd a0 = 5) : CN l yX5_want cX5_want 5 (some .boolean) (k2_rm 0 0) eI (fun b => [.ref (b + a0), .int x1, .int x2, .long y3]) M (f_X5_want M a0 x1 x2 y3) := by
  refine CN.of RX5 (fun b => [(0, .ref (b + a0)), (1, .int x1), (2, .int x2), (3, .long y3)]) (by decide) rfl (fun b => Nat.le_of_ble_eq_true rfl) (fun b => rfl) ?_
  intro p e s m args below meth c D T b hC
  unfold f_X5_want
  refine n_iload_n hC 1 rfl dX5_want_0 ?_
  refine n_if_ne hC 22 dX5_want_1 (by decide) ?_ ?_
  · exact GN.sub [0] rfl (b_X5_want_22 hC a0 h0 M)
  refine n_aload_n hC 0 rfl dX5_want_4 ?_
  refine n_get hC clX5 h0 27 (.int (M.1 a0 27)) (by decide) rfl fl_X5_187 rfl dX5_want_5 ?_
  refine n_if_ne hC 22 dX5_want_8 (by decide) ?_ ?_
  · exact GN.sub [0] rfl (b_X5_want_22 hC a0 h0 M)
  refine n_aload_n hC 0 rfl dX5_want_11 ?_
  refine n_iload_n hC 2 rfl dX5_want_12 ?_
  refine n_putI hC clX5 h0 27 (by decide) rfl rfl rfl fl_X5_187 dX5_want_13 (fun M1 => ?_)
  refine n_aload_n hC 0 rfl dX5_want_16 ?_
  refine n_lload_n hC 3 rfl dX5_want_17 ?_
  refine n_l2i hC dX5_want_18 ?_
  refine n_putI hC clX5 h0 28 (by decide) rfl rfl rfl fl_X5_190 dX5_want_19 (fun M2 => ?_)
  exact GN.sub [0] rfl (b_X5_want_22 hC a0 h0 M2)
def f_X5_two (M : Me) (a0 : Nat) (x1 : Int32) : Option (Int32 × Me) := chk x1 (ln (rf a0 23)) (chk (x1 + (1 : Int32)) (ln (rf a0 23)) (some (((M.1 (rf a0 23) x1.toNatClampNeg) ||| ((M.1 (rf a0 23) (x1 + (1 : Int32)).toNatClampNeg) <<< ((8 : Int32) &&& 31))), M)))
set_option maxHeartbeats 4000000 in
set_option maxRecDepth 100000 in
theorem c_X5_two (l : Launch) (M : Me) (a0 : Nat) (x1 : Int32) (h0 : kd a0 = 5) : CN l yX5_two cX5_two 2 (some .int) (k2_rm 0 0) eI (fun b => [.ref (b + a0), .int x1]) M (f_X5_two M a0 x1) := by
  refine CN.of RX5 (fun b => [(0, .ref (b + a0)), (1, .int x1)]) (by decide) rfl (fun b => Nat.le_of_ble_eq_true rfl) (fun b => rfl) ?_
  intro p e s m args below meth c D T b hC
  unfold f_X5_two
  refine n_aload_n hC 0 rfl dX5_two_0 ?_
  refine n_get hC clX5 h0 23 (.ref (b + (rf a0 23))) (by decide) rfl fl_X5_128 rfl dX5_two_1 ?_
  refine n_iload_n hC 1 rfl dX5_two_4 ?_
  refine n_iald hC (kf_X5_23 h0) dX5_two_5 (fun g1 => ?_)
  refine n_aload_n hC 0 rfl dX5_two_6 ?_
  refine n_get hC clX5 h0 23 (.ref (b + (rf a0 23))) (by decide) rfl fl_X5_128 rfl dX5_two_7 ?_
  refine n_iload_n hC 1 rfl dX5_two_10 ?_
  refine n_iconst hC (1 : Int32) (by decide) dX5_two_11 ?_
  refine n_iadd hC dX5_two_12 ?_
  refine n_iald hC (kf_X5_23 h0) dX5_two_13 (fun g2 => ?_)
  refine n_bipush hC (8 : Int32) (by decide) dX5_two_14 ?_
  refine n_ishl hC dX5_two_16 ?_
  refine n_ior hC dX5_two_17 ?_
  exact n_iret hC dX5_two_18
def f_X5_four (M : Me) (a0 : Nat) (x1 : Int32) : Option (Int64 × Me) := cal (f_X5_two M a0 x1) (fun r1 M2 => cal (f_X5_two M2 a0 (x1 + (2 : Int32))) (fun r3 M4 => some ((r1.toInt64 ||| (lShl r3.toInt64 (16 : Int32))), M4)))
set_option maxHeartbeats 4000000 in
set_option maxRecDepth 100000 in
theorem c_X5_four (l : Launch) (M : Me) (a0 : Nat) (x1 : Int32) (h0 : kd a0 = 5) : CN l yX5_four cX5_four 2 (some .long) (k2_rm 1 21) eL (fun b => [.ref (b + a0), .int x1]) M (f_X5_four M a0 x1) := by
  refine CN.of RX5 (fun b => [(0, .ref (b + a0)), (1, .int x1)]) (by decide) rfl (fun b => Nat.le_of_ble_eq_true rfl) (fun b => rfl) ?_
  intro p e s m args below meth c D T b hC
  unfold f_X5_four
  refine n_aload_n hC 0 rfl dX5_four_0 ?_
  refine n_iload_n hC 1 rfl dX5_four_1 ?_
  refine n_callVi (As := [.int x1]) (rest := []) h0 rfl (by decide) hC (c_X5_two l M a0 x1 h0) my_X5_two ml_X5_193 rfl rfl rfl (Nat.le_of_ble_eq_true rfl) ⟨by decide, by decide⟩ dX5_four_2 (fun r1 M2 => ?_)
  refine n_i2l hC dX5_four_5 ?_
  refine n_aload_n hC 0 rfl dX5_four_6 ?_
  refine n_iload_n hC 1 rfl dX5_four_7 ?_
  refine n_iconst hC (2 : Int32) (by decide) dX5_four_8 ?_
  refine n_iadd hC dX5_four_9 ?_
  refine n_callVi (As := [.int (x1 + (2 : Int32))]) (rest := [.long r1.toInt64]) h0 rfl (by decide) hC (c_X5_two l M2 a0 (x1 + (2 : Int32)) h0) my_X5_two ml_X5_193 rfl rfl rfl (Nat.le_of_ble_eq_true rfl) ⟨by decide, by decide⟩ dX5_four_10 (fun r3 M4 => ?_)
  refine n_i2l hC dX5_four_13 ?_
  refine n_bipush hC (16 : Int32) (by decide) dX5_four_14 ?_
  refine n_lshl hC dX5_four_16 ?_
  refine n_lor hC dX5_four_17 ?_
  exact n_lret hC dX5_four_18
def f_X5_eight (M : Me) (a0 : Nat) (x1 : Int32) : Option (Int64 × Me) := cal (f_X5_four M a0 x1) (fun r1 M2 => cal (f_X5_four M2 a0 (x1 + (4 : Int32))) (fun r3 M4 => some ((r1 ||| (lShl r3 (32 : Int32))), M4)))
set_option maxHeartbeats 4000000 in
set_option maxRecDepth 100000 in
theorem c_X5_eight (l : Launch) (M : Me) (a0 : Nat) (x1 : Int32) (h0 : kd a0 = 5) : CN l yX5_eight cX5_eight 2 (some .long) (k2_rm 2 42) eL (fun b => [.ref (b + a0), .int x1]) M (f_X5_eight M a0 x1) := by
  refine CN.of RX5 (fun b => [(0, .ref (b + a0)), (1, .int x1)]) (by decide) rfl (fun b => Nat.le_of_ble_eq_true rfl) (fun b => rfl) ?_
  intro p e s m args below meth c D T b hC
  unfold f_X5_eight
  refine n_aload_n hC 0 rfl dX5_eight_0 ?_
  refine n_iload_n hC 1 rfl dX5_eight_1 ?_
  refine n_callVl (As := [.int x1]) (rest := []) h0 rfl (by decide) hC (c_X5_four l M a0 x1 h0) my_X5_four ml_X5_196 rfl rfl rfl (Nat.le_of_ble_eq_true rfl) ⟨by decide, by decide⟩ dX5_eight_2 (fun r1 M2 => ?_)
  refine n_aload_n hC 0 rfl dX5_eight_5 ?_
  refine n_iload_n hC 1 rfl dX5_eight_6 ?_
  refine n_iconst hC (4 : Int32) (by decide) dX5_eight_7 ?_
  refine n_iadd hC dX5_eight_8 ?_
  refine n_callVl (As := [.int (x1 + (4 : Int32))]) (rest := [.long r1]) h0 rfl (by decide) hC (c_X5_four l M2 a0 (x1 + (4 : Int32)) h0) my_X5_four ml_X5_196 rfl rfl rfl (Nat.le_of_ble_eq_true rfl) ⟨by decide, by decide⟩ dX5_eight_9 (fun r3 M4 => ?_)
  refine n_bipush hC (32 : Int32) (by decide) dX5_eight_12 ?_
  refine n_lshl hC dX5_eight_14 ?_
  refine n_lor hC dX5_eight_15 ?_
  exact n_lret hC dX5_eight_16
def j_X5_findEnd_79 (kx : Int32 → Int32 → Me → Option (Unit × Me)) (kb : Int32 × Int32 × Me → Option (Unit × Me)) (a0 : Nat) (x1 : Int32) (x2 : Int32) (s0 : Int32) (s1 : Int32) (M : Me) : Option (Unit × Me) := bndV (s1 - s0) (fun v4 => kb (v4, x2, M))
set_option maxHeartbeats 4000000 in
set_option maxRecDepth 100000 in
theorem b_X5_findEnd_79 {p : Program} {l : Launch} {e : Env} {s : State} {m : MethodId} {args : Array Value} {below : List Frame} {meth : Method} {c : Code} {D : va_G} {T : Nat → ClassId} {b : Nat} (hC : CX p s m args meth c cX5_findEnd 7 RX5 none D T) (a0 : Nat) (x1 : Int32) (x2 : Int32) (s0 : Int32) (s1 : Int32) (h0 : kd a0 = 5) (kx : Int32 → Int32 → Me → Option (Unit × Me)) (hkx : ∀ (x1 : Int32) (x2 : Int32) (M : Me), GN p l e (k2_rm 2 42) s m args below meth c D T b 7 eV 84 [(0, .ref (b + a0)), (1, .int x1), (2, .int x2)] [] M (kx x1 x2 M)) (kb : Int32 × Int32 × Me → Option (Unit × Me)) (hkb : ∀ z : Int32 × Int32 × Me, GN p l e (k2_rm 2 42) s m args below meth c D T b 7 eV 10 [(0, .ref (b + a0)), (1, .int z.1), (2, .int z.2.1)] [] z.2.2 (kb z)) (M : Me) : GN p l e (k2_rm 2 42) s m args below meth c D T b 7 eV 79 [(0, .ref (b + a0)), (1, .int x1), (2, .int x2)] [.int s0, .int s1] M (j_X5_findEnd_79 kx kb a0 x1 x2 s0 s1 M) := by
  unfold j_X5_findEnd_79
  refine n_isub hC dX5_findEnd_79 ?_
  refine n_istB_n hC rfl (fun v4 => [(1, .int v4), (0, .ref (b + a0)), (2, .int x2)]) (by decide) (fun _ => rfl) dX5_findEnd_80 (fun v4 => ?_)
  refine n_goto hC (tgt := 10) (by decide) dX5_findEnd_81 ?_
  exact GN.sub [1, 0, 2] rfl (hkb (v4, x2, M))
def j_X5_findEnd_68 (kx : Int32 → Int32 → Me → Option (Unit × Me)) (kb : Int32 × Int32 × Me → Option (Unit × Me)) (a0 : Nat) (x1 : Int32) (x2 : Int32) (s0 : Int32) (M : Me) : Option (Unit × Me) := if s0 = (0 : Int32) then j_X5_findEnd_79 kx kb a0 x1 s0 (1 : Int32) x1 M else j_X5_findEnd_79 kx kb a0 x1 s0 (0 : Int32) x1 M
set_option maxHeartbeats 4000000 in
set_option maxRecDepth 100000 in
theorem b_X5_findEnd_68 {p : Program} {l : Launch} {e : Env} {s : State} {m : MethodId} {args : Array Value} {below : List Frame} {meth : Method} {c : Code} {D : va_G} {T : Nat → ClassId} {b : Nat} (hC : CX p s m args meth c cX5_findEnd 7 RX5 none D T) (a0 : Nat) (x1 : Int32) (x2 : Int32) (s0 : Int32) (h0 : kd a0 = 5) (kx : Int32 → Int32 → Me → Option (Unit × Me)) (hkx : ∀ (x1 : Int32) (x2 : Int32) (M : Me), GN p l e (k2_rm 2 42) s m args below meth c D T b 7 eV 84 [(0, .ref (b + a0)), (1, .int x1), (2, .int x2)] [] M (kx x1 x2 M)) (kb : Int32 × Int32 × Me → Option (Unit × Me)) (hkb : ∀ z : Int32 × Int32 × Me, GN p l e (k2_rm 2 42) s m args below meth c D T b 7 eV 10 [(0, .ref (b + a0)), (1, .int z.1), (2, .int z.2.1)] [] z.2.2 (kb z)) (M : Me) : GN p l e (k2_rm 2 42) s m args below meth c D T b 7 eV 68 [(0, .ref (b + a0)), (1, .int x1), (2, .int x2)] [.int s0] M (j_X5_findEnd_68 kx kb a0 x1 x2 s0 M) := by
  unfold j_X5_findEnd_68
  refine n_istore_n hC rfl [(2, .int s0), (0, .ref (b + a0)), (1, .int x1)] (by decide) rfl dX5_findEnd_68 ?_
  refine n_iload_n hC 2 rfl dX5_findEnd_69 ?_
  refine n_iload_n hC 0 rfl dX5_findEnd_70 ?_
  refine n_if_eq hC 78 dX5_findEnd_71 (by decide) ?_ ?_
  · refine n_iconst hC (1 : Int32) (by decide) dX5_findEnd_78 ?_
    exact GN.sub [1, 2, 0] rfl (b_X5_findEnd_79 hC a0 x1 s0 (1 : Int32) x1 h0 kx hkx kb hkb M)
  refine n_iconst hC (0 : Int32) (by decide) dX5_findEnd_74 ?_
  refine n_goto hC (tgt := 79) (by decide) dX5_findEnd_75 ?_
  exact GN.sub [1, 2, 0] rfl (b_X5_findEnd_79 hC a0 x1 s0 (0 : Int32) x1 h0 kx hkx kb hkb M)
def j_X5_findEnd_67 (kx : Int32 → Int32 → Me → Option (Unit × Me)) (kb : Int32 × Int32 × Me → Option (Unit × Me)) (a0 : Nat) (x1 : Int32) (x2 : Int32) (M : Me) : Option (Unit × Me) := j_X5_findEnd_68 kx kb a0 x1 x2 (0 : Int32) M
set_option maxHeartbeats 4000000 in
set_option maxRecDepth 100000 in
theorem b_X5_findEnd_67 {p : Program} {l : Launch} {e : Env} {s : State} {m : MethodId} {args : Array Value} {below : List Frame} {meth : Method} {c : Code} {D : va_G} {T : Nat → ClassId} {b : Nat} (hC : CX p s m args meth c cX5_findEnd 7 RX5 none D T) (a0 : Nat) (x1 : Int32) (x2 : Int32) (h0 : kd a0 = 5) (kx : Int32 → Int32 → Me → Option (Unit × Me)) (hkx : ∀ (x1 : Int32) (x2 : Int32) (M : Me), GN p l e (k2_rm 2 42) s m args below meth c D T b 7 eV 84 [(0, .ref (b + a0)), (1, .int x1), (2, .int x2)] [] M (kx x1 x2 M)) (kb : Int32 × Int32 × Me → Option (Unit × Me)) (hkb : ∀ z : Int32 × Int32 × Me, GN p l e (k2_rm 2 42) s m args below meth c D T b 7 eV 10 [(0, .ref (b + a0)), (1, .int z.1), (2, .int z.2.1)] [] z.2.2 (kb z)) (M : Me) : GN p l e (k2_rm 2 42) s m args below meth c D T b 7 eV 67 [(0, .ref (b + a0)), (1, .int x1), (2, .int x2)] [] M (j_X5_findEnd_67 kx kb a0 x1 x2 M) := by
  unfold j_X5_findEnd_67
  refine n_iconst hC (0 : Int32) (by decide) dX5_findEnd_67 ?_
  exact GN.sub [0, 1, 2] rfl (b_X5_findEnd_68 hC a0 x1 x2 (0 : Int32) h0 kx hkx kb hkb M)
def g_X5_findEnd_10 (kx : Int32 → Int32 → Me → Option (Unit × Me)) (kb : Int32 × Int32 × Me → Option (Unit × Me)) (a0 : Nat) (x1 : Int32) (x2 : Int32) (M : Me) : Option (Unit × Me) := if x1 < (0 : Int32) then kx x1 x2 M else if x2 = (0 : Int32) then cal (f_X5_four M a0 x1) (fun r2 M3 => if (lg_cmp r2 (101010256 : Int64)) = (0 : Int32) then cal (f_X5_two M3 a0 (x1 + (20 : Int32))) (fun r5 M6 => if (12 : Int32) < r5 then j_X5_findEnd_67 kx kb a0 x1 x2 M6 else cal (f_X5_two M6 a0 (x1 + (20 : Int32))) (fun r7 M8 => if ((x1 + (22 : Int32)) + r7) = (M8.1 a0 24) then j_X5_findEnd_68 kx kb a0 x1 x2 (1 : Int32) M8 else j_X5_findEnd_67 kx kb a0 x1 x2 M8)) else j_X5_findEnd_67 kx kb a0 x1 x2 M3) else kx x1 x2 M
set_option maxHeartbeats 4000000 in
set_option maxRecDepth 100000 in
theorem b_X5_findEnd_10_g {p : Program} {l : Launch} {e : Env} {s : State} {m : MethodId} {args : Array Value} {below : List Frame} {meth : Method} {c : Code} {D : va_G} {T : Nat → ClassId} {b : Nat} (hC : CX p s m args meth c cX5_findEnd 7 RX5 none D T) (a0 : Nat) (x1 : Int32) (x2 : Int32) (h0 : kd a0 = 5) (kx : Int32 → Int32 → Me → Option (Unit × Me)) (hkx : ∀ (x1 : Int32) (x2 : Int32) (M : Me), GN p l e (k2_rm 2 42) s m args below meth c D T b 7 eV 84 [(0, .ref (b + a0)), (1, .int x1), (2, .int x2)] [] M (kx x1 x2 M)) (kb : Int32 × Int32 × Me → Option (Unit × Me)) (hkb : ∀ z : Int32 × Int32 × Me, GN p l e (k2_rm 2 42) s m args below meth c D T b 7 eV 10 [(0, .ref (b + a0)), (1, .int z.1), (2, .int z.2.1)] [] z.2.2 (kb z)) (M : Me) : GN p l e (k2_rm 2 42) s m args below meth c D T b 7 eV 10 [(0, .ref (b + a0)), (1, .int x1), (2, .int x2)] [] M (g_X5_findEnd_10 kx kb a0 x1 x2 M) := by
  unfold g_X5_findEnd_10
  refine n_iload_n hC 1 rfl dX5_findEnd_10 ?_
  refine n_if_lt hC 84 dX5_findEnd_11 (by decide) ?_ ?_
  · exact GN.sub [0, 1, 2] rfl (hkx x1 x2 M)
  refine n_iload_n hC 2 rfl dX5_findEnd_14 ?_
  refine n_if_ne hC 84 dX5_findEnd_15 (by decide) ?_ ?_
  · exact GN.sub [0, 1, 2] rfl (hkx x1 x2 M)
  refine n_aload_n hC 0 rfl dX5_findEnd_18 ?_
  refine n_iload_n hC 1 rfl dX5_findEnd_19 ?_
  refine n_callVl (As := [.int x1]) (rest := []) h0 rfl (by decide) hC (c_X5_four l M a0 x1 h0) my_X5_four ml_X5_196 rfl rfl rfl (Nat.le_of_ble_eq_true rfl) ⟨by decide, by decide⟩ dX5_findEnd_20 (fun r2 M3 => ?_)
  refine n_ldc2 hC (101010256 : Int64) kc_X5_178 dX5_findEnd_23 ?_
  refine n_lcmp hC dX5_findEnd_26 ?_
  refine n_if_ne hC 67 dX5_findEnd_27 (by decide) ?_ ?_
  · exact GN.sub [0, 1, 2] rfl (b_X5_findEnd_67 hC a0 x1 x2 h0 kx hkx kb hkb M3)
  refine n_aload_n hC 0 rfl dX5_findEnd_30 ?_
  refine n_iload_n hC 1 rfl dX5_findEnd_31 ?_
  refine n_bipush hC (20 : Int32) (by decide) dX5_findEnd_32 ?_
  refine n_iadd hC dX5_findEnd_34 ?_
  refine n_callVi (As := [.int (x1 + (20 : Int32))]) (rest := []) h0 rfl (by decide) hC (c_X5_two l M3 a0 (x1 + (20 : Int32)) h0) my_X5_two ml_X5_193 rfl rfl rfl (Nat.le_of_ble_eq_true rfl) ⟨by decide, by decide⟩ dX5_findEnd_35 (fun r5 M6 => ?_)
  refine n_bipush hC (12 : Int32) (by decide) dX5_findEnd_38 ?_
  refine n_icmp_gt hC 67 dX5_findEnd_40 (by decide) ?_ ?_
  · exact GN.sub [0, 1, 2] rfl (b_X5_findEnd_67 hC a0 x1 x2 h0 kx hkx kb hkb M6)
  refine n_iload_n hC 1 rfl dX5_findEnd_43 ?_
  refine n_bipush hC (22 : Int32) (by decide) dX5_findEnd_44 ?_
  refine n_iadd hC dX5_findEnd_46 ?_
  refine n_aload_n hC 0 rfl dX5_findEnd_47 ?_
  refine n_iload_n hC 1 rfl dX5_findEnd_48 ?_
  refine n_bipush hC (20 : Int32) (by decide) dX5_findEnd_49 ?_
  refine n_iadd hC dX5_findEnd_51 ?_
  refine n_callVi (As := [.int (x1 + (20 : Int32))]) (rest := [.int (x1 + (22 : Int32))]) h0 rfl (by decide) hC (c_X5_two l M6 a0 (x1 + (20 : Int32)) h0) my_X5_two ml_X5_193 rfl rfl rfl (Nat.le_of_ble_eq_true rfl) ⟨by decide, by decide⟩ dX5_findEnd_52 (fun r7 M8 => ?_)
  refine n_iadd hC dX5_findEnd_55 ?_
  refine n_aload_n hC 0 rfl dX5_findEnd_56 ?_
  refine n_get hC clX5 h0 24 (.int (M8.1 a0 24)) (by decide) rfl fl_X5_180 rfl dX5_findEnd_57 ?_
  refine n_icmp_ne hC 67 dX5_findEnd_60 (by decide) ?_ ?_
  · exact GN.sub [0, 1, 2] rfl (b_X5_findEnd_67 hC a0 x1 x2 h0 kx hkx kb hkb M8)
  refine n_iconst hC (1 : Int32) (by decide) dX5_findEnd_63 ?_
  refine n_goto hC (tgt := 68) (by decide) dX5_findEnd_64 ?_
  exact GN.sub [0, 1, 2] rfl (b_X5_findEnd_68 hC a0 x1 x2 (1 : Int32) h0 kx hkx kb hkb M8)
def l_X5_findEnd_10 (kx : Int32 → Int32 → Me → Option (Unit × Me)) (a0 : Nat) (x1 : Int32) (x2 : Int32) (M : Me) : Option (Unit × Me) := lp (fun kb z => g_X5_findEnd_10 kx kb a0 z.1 z.2.1 z.2.2) FU (x1, x2, M)
set_option maxHeartbeats 4000000 in
set_option maxRecDepth 100000 in
theorem b_X5_findEnd_10 {p : Program} {l : Launch} {e : Env} {s : State} {m : MethodId} {args : Array Value} {below : List Frame} {meth : Method} {c : Code} {D : va_G} {T : Nat → ClassId} {b : Nat} (hC : CX p s m args meth c cX5_findEnd 7 RX5 none D T) (a0 : Nat) (x1 : Int32) (x2 : Int32) (h0 : kd a0 = 5) (kx : Int32 → Int32 → Me → Option (Unit × Me)) (hkx : ∀ (x1 : Int32) (x2 : Int32) (M : Me), GN p l e (k2_rm 2 42) s m args below meth c D T b 7 eV 84 [(0, .ref (b + a0)), (1, .int x1), (2, .int x2)] [] M (kx x1 x2 M)) (M : Me) : GN p l e (k2_rm 2 42) s m args below meth c D T b 7 eV 10 [(0, .ref (b + a0)), (1, .int x1), (2, .int x2)] [] M (l_X5_findEnd_10 kx a0 x1 x2 M) := by
  exact n_loop (σ := Int32 × Int32 × Me) (fun z => [(0, .ref (b + a0)), (1, .int z.1), (2, .int z.2.1)]) (fun z => z.2.2) (fun kb hkb z => b_X5_findEnd_10_g hC a0 z.1 z.2.1 h0 kx hkx kb hkb z.2.2) FU (x1, x2, M)
def j_X5_findEnd_179 (a0 : Nat) (x1 : Int32) (y3 : Int64) (y5 : Int64) (s0 : Int32) (s1 : Nat) (M : Me) : Option (Unit × Me) := cal (f_X5_want M s1 s0 (2 : Int32) x1.toInt64) (fun r23 M24 => if r23 = (0 : Int32) then some ((), M24) else bnd (sI M24 a0 31 y3.toInt32) (fun M25 => bnd (sI M25 a0 32 y5.toInt32) (fun M26 => some ((), M26))))
set_option maxHeartbeats 4000000 in
set_option maxRecDepth 100000 in
theorem b_X5_findEnd_179 {p : Program} {l : Launch} {e : Env} {s : State} {m : MethodId} {args : Array Value} {below : List Frame} {meth : Method} {c : Code} {D : va_G} {T : Nat → ClassId} {b : Nat} (hC : CX p s m args meth c cX5_findEnd 7 RX5 none D T) (a0 : Nat) (x1 : Int32) (y3 : Int64) (y5 : Int64) (s0 : Int32) (s1 : Nat) (h0 : kd a0 = 5) (hs1 : kd s1 = 5) (M : Me) : GN p l e (k2_rm 2 42) s m args below meth c D T b 7 eV 179 [(0, .ref (b + a0)), (1, .int x1), (3, .long y3), (5, .long y5)] [.int s0, .ref (b + s1)] M (j_X5_findEnd_179 a0 x1 y3 y5 s0 s1 M) := by
  unfold j_X5_findEnd_179
  refine n_iconst hC (2 : Int32) (by decide) dX5_findEnd_179 ?_
  refine n_iload_n hC 1 rfl dX5_findEnd_180 ?_
  refine n_i2l hC dX5_findEnd_181 ?_
  refine n_callVi (As := [.int s0, .int (2 : Int32), .long x1.toInt64]) (rest := []) hs1 rfl (by decide) hC (c_X5_want l M s1 s0 (2 : Int32) x1.toInt64 hs1) my_X5_want ml_X5_200 rfl rfl rfl (Nat.le_of_ble_eq_true rfl) ⟨by decide, by decide⟩ dX5_findEnd_182 (fun r23 M24 => ?_)
  refine n_if_eq hC 201 dX5_findEnd_185 (by decide) ?_ ?_
  · exact n_vret hC dX5_findEnd_201
  refine n_aload_n hC 0 rfl dX5_findEnd_188 ?_
  refine n_lload_n hC 2 rfl dX5_findEnd_189 ?_
  refine n_l2i hC dX5_findEnd_190 ?_
  refine n_putI hC clX5 h0 31 (by decide) rfl rfl rfl fl_X5_210 dX5_findEnd_191 (fun M25 => ?_)
  refine n_aload_n hC 0 rfl dX5_findEnd_194 ?_
  refine n_lload hC 3 rfl dX5_findEnd_195 ?_
  refine n_l2i hC dX5_findEnd_197 ?_
  refine n_putI hC clX5 h0 32 (by decide) rfl rfl rfl fl_X5_213 dX5_findEnd_198 (fun M26 => ?_)
  exact n_vret hC dX5_findEnd_201
def j_X5_findEnd_178 (a0 : Nat) (x1 : Int32) (y3 : Int64) (y5 : Int64) (s0 : Nat) (M : Me) : Option (Unit × Me) := j_X5_findEnd_179 a0 x1 y3 y5 (0 : Int32) s0 M
set_option maxHeartbeats 4000000 in
set_option maxRecDepth 100000 in
theorem b_X5_findEnd_178 {p : Program} {l : Launch} {e : Env} {s : State} {m : MethodId} {args : Array Value} {below : List Frame} {meth : Method} {c : Code} {D : va_G} {T : Nat → ClassId} {b : Nat} (hC : CX p s m args meth c cX5_findEnd 7 RX5 none D T) (a0 : Nat) (x1 : Int32) (y3 : Int64) (y5 : Int64) (s0 : Nat) (h0 : kd a0 = 5) (hs0 : kd s0 = 5) (M : Me) : GN p l e (k2_rm 2 42) s m args below meth c D T b 7 eV 178 [(0, .ref (b + a0)), (1, .int x1), (3, .long y3), (5, .long y5)] [.ref (b + s0)] M (j_X5_findEnd_178 a0 x1 y3 y5 s0 M) := by
  unfold j_X5_findEnd_178
  refine n_iconst hC (0 : Int32) (by decide) dX5_findEnd_178 ?_
  exact GN.sub [0, 1, 2, 3] rfl (b_X5_findEnd_179 hC a0 x1 y3 y5 (0 : Int32) s0 h0 hs0 M)
def j_X5_findEnd_84 (a0 : Nat) (x1 : Int32) (x2 : Int32) (M : Me) : Option (Unit × Me) := cal (f_X5_want M a0 x2 (1 : Int32) (((M.1 a0 24)).toInt64)) (fun r12 M13 => if r12 = (0 : Int32) then some ((), M13) else bnd (sI M13 a0 29 x1) (fun M14 => cal (f_X5_two M14 a0 (x1 + (8 : Int32))) (fun r15 M16 => bnd (sI M16 a0 30 r15) (fun M17 => cal (f_X5_four M17 a0 (x1 + (16 : Int32))) (fun r18 M19 => cal (f_X5_four M19 a0 (x1 + (12 : Int32))) (fun r20 M21 => bndV (r18 + r20) (fun v22 => if (0 : Int32) < (lg_cmp v22 x1.toInt64) then j_X5_findEnd_178 a0 x1 r18 v22 a0 M21 else cal (f_X5_two M21 a0 (x1 + (8 : Int32))) (fun r27 M28 => cal (f_X5_two M28 a0 (x1 + (10 : Int32))) (fun r29 M30 => if r27 = r29 then if (12 : Int32) < (M30.1 a0 30) then j_X5_findEnd_178 a0 x1 r18 v22 a0 M30 else j_X5_findEnd_179 a0 x1 r18 v22 (1 : Int32) a0 M30 else j_X5_findEnd_178 a0 x1 r18 v22 a0 M30)))))))))
set_option maxHeartbeats 4000000 in
set_option maxRecDepth 100000 in
theorem b_X5_findEnd_84 {p : Program} {l : Launch} {e : Env} {s : State} {m : MethodId} {args : Array Value} {below : List Frame} {meth : Method} {c : Code} {D : va_G} {T : Nat → ClassId} {b : Nat} (hC : CX p s m args meth c cX5_findEnd 7 RX5 none D T) (a0 : Nat) (x1 : Int32) (x2 : Int32) (h0 : kd a0 = 5) (M : Me) : GN p l e (k2_rm 2 42) s m args below meth c D T b 7 eV 84 [(0, .ref (b + a0)), (1, .int x1), (2, .int x2)] [] M (j_X5_findEnd_84 a0 x1 x2 M) := by
  unfold j_X5_findEnd_84
  refine n_aload_n hC 0 rfl dX5_findEnd_84 ?_
  refine n_iload_n hC 2 rfl dX5_findEnd_85 ?_
  refine n_iconst hC (1 : Int32) (by decide) dX5_findEnd_86 ?_
  refine n_aload_n hC 0 rfl dX5_findEnd_87 ?_
  refine n_get hC clX5 h0 24 (.int (M.1 a0 24)) (by decide) rfl fl_X5_180 rfl dX5_findEnd_88 ?_
  refine n_i2l hC dX5_findEnd_91 ?_
  refine n_callVi (As := [.int x2, .int (1 : Int32), .long ((M.1 a0 24)).toInt64]) (rest := []) h0 rfl (by decide) hC (c_X5_want l M a0 x2 (1 : Int32) (((M.1 a0 24)).toInt64) h0) my_X5_want ml_X5_200 rfl rfl rfl (Nat.le_of_ble_eq_true rfl) ⟨by decide, by decide⟩ dX5_findEnd_92 (fun r12 M13 => ?_)
  refine n_if_ne hC 99 dX5_findEnd_95 (by decide) ?_ ?_
  · refine n_aload_n hC 0 rfl dX5_findEnd_99 ?_
    refine n_iload_n hC 1 rfl dX5_findEnd_100 ?_
    refine n_putI hC clX5 h0 29 (by decide) rfl rfl rfl fl_X5_204 dX5_findEnd_101 (fun M14 => ?_)
    refine n_aload_n hC 0 rfl dX5_findEnd_104 ?_
    refine n_aload_n hC 0 rfl dX5_findEnd_105 ?_
    refine n_iload_n hC 1 rfl dX5_findEnd_106 ?_
    refine n_bipush hC (8 : Int32) (by decide) dX5_findEnd_107 ?_
    refine n_iadd hC dX5_findEnd_109 ?_
    refine n_callVi (As := [.int (x1 + (8 : Int32))]) (rest := [.ref (b + a0)]) h0 rfl (by decide) hC (c_X5_two l M14 a0 (x1 + (8 : Int32)) h0) my_X5_two ml_X5_193 rfl rfl rfl (Nat.le_of_ble_eq_true rfl) ⟨by decide, by decide⟩ dX5_findEnd_110 (fun r15 M16 => ?_)
    refine n_putI hC clX5 h0 30 (by decide) rfl rfl rfl fl_X5_207 dX5_findEnd_113 (fun M17 => ?_)
    refine n_aload_n hC 0 rfl dX5_findEnd_116 ?_
    refine n_iload_n hC 1 rfl dX5_findEnd_117 ?_
    refine n_bipush hC (16 : Int32) (by decide) dX5_findEnd_118 ?_
    refine n_iadd hC dX5_findEnd_120 ?_
    refine n_callVl (As := [.int (x1 + (16 : Int32))]) (rest := []) h0 rfl (by decide) hC (c_X5_four l M17 a0 (x1 + (16 : Int32)) h0) my_X5_four ml_X5_196 rfl rfl rfl (Nat.le_of_ble_eq_true rfl) ⟨by decide, by decide⟩ dX5_findEnd_121 (fun r18 M19 => ?_)
    refine n_lstore_n hC rfl [(3, .long r18), (0, .ref (b + a0)), (1, .int x1), (2, .int x2)] (by decide) rfl dX5_findEnd_124 ?_
    refine n_lload_n hC 0 rfl dX5_findEnd_125 ?_
    refine n_aload_n hC 1 rfl dX5_findEnd_126 ?_
    refine n_iload_n hC 2 rfl dX5_findEnd_127 ?_
    refine n_bipush hC (12 : Int32) (by decide) dX5_findEnd_128 ?_
    refine n_iadd hC dX5_findEnd_130 ?_
    refine n_callVl (As := [.int (x1 + (12 : Int32))]) (rest := [.long r18]) h0 rfl (by decide) hC (c_X5_four l M19 a0 (x1 + (12 : Int32)) h0) my_X5_four ml_X5_196 rfl rfl rfl (Nat.le_of_ble_eq_true rfl) ⟨by decide, by decide⟩ dX5_findEnd_131 (fun r20 M21 => ?_)
    refine n_ladd hC dX5_findEnd_134 ?_
    refine n_lstB hC (fun v22 => [(5, .long v22), (3, .long r18), (0, .ref (b + a0)), (1, .int x1), (2, .int x2)]) (by decide) (fun _ => rfl) dX5_findEnd_135 (fun v22 => ?_)
    refine n_aload_n hC 2 rfl dX5_findEnd_137 ?_
    refine n_lload hC 0 rfl dX5_findEnd_138 ?_
    refine n_iload_n hC 3 rfl dX5_findEnd_140 ?_
    refine n_i2l hC dX5_findEnd_141 ?_
    refine n_lcmp hC dX5_findEnd_142 ?_
    refine n_if_gt hC 178 dX5_findEnd_143 (by decide) ?_ ?_
    · exact GN.sub [2, 3, 1, 0] rfl (b_X5_findEnd_178 hC a0 x1 r18 v22 a0 h0 h0 M21)
    refine n_aload_n hC 2 rfl dX5_findEnd_146 ?_
    refine n_iload_n hC 3 rfl dX5_findEnd_147 ?_
    refine n_bipush hC (8 : Int32) (by decide) dX5_findEnd_148 ?_
    refine n_iadd hC dX5_findEnd_150 ?_
    refine n_callVi (As := [.int (x1 + (8 : Int32))]) (rest := [.ref (b + a0)]) h0 rfl (by decide) hC (c_X5_two l M21 a0 (x1 + (8 : Int32)) h0) my_X5_two ml_X5_193 rfl rfl rfl (Nat.le_of_ble_eq_true rfl) ⟨by decide, by decide⟩ dX5_findEnd_151 (fun r27 M28 => ?_)
    refine n_aload_n hC 2 rfl dX5_findEnd_154 ?_
    refine n_iload_n hC 3 rfl dX5_findEnd_155 ?_
    refine n_bipush hC (10 : Int32) (by decide) dX5_findEnd_156 ?_
    refine n_iadd hC dX5_findEnd_158 ?_
    refine n_callVi (As := [.int (x1 + (10 : Int32))]) (rest := [.int r27, .ref (b + a0)]) h0 rfl (by decide) hC (c_X5_two l M28 a0 (x1 + (10 : Int32)) h0) my_X5_two ml_X5_193 rfl rfl rfl (Nat.le_of_ble_eq_true rfl) ⟨by decide, by decide⟩ dX5_findEnd_159 (fun r29 M30 => ?_)
    refine n_icmp_ne hC 178 dX5_findEnd_162 (by decide) ?_ ?_
    · exact GN.sub [2, 3, 1, 0] rfl (b_X5_findEnd_178 hC a0 x1 r18 v22 a0 h0 h0 M30)
    refine n_aload_n hC 2 rfl dX5_findEnd_165 ?_
    refine n_get hC clX5 h0 30 (.int (M30.1 a0 30)) (by decide) rfl fl_X5_207 rfl dX5_findEnd_166 ?_
    refine n_bipush hC (12 : Int32) (by decide) dX5_findEnd_169 ?_
    refine n_icmp_gt hC 178 dX5_findEnd_171 (by decide) ?_ ?_
    · exact GN.sub [2, 3, 1, 0] rfl (b_X5_findEnd_178 hC a0 x1 r18 v22 a0 h0 h0 M30)
    refine n_iconst hC (1 : Int32) (by decide) dX5_findEnd_174 ?_
    refine n_goto hC (tgt := 179) (by decide) dX5_findEnd_175 ?_
    exact GN.sub [2, 3, 1, 0] rfl (b_X5_findEnd_179 hC a0 x1 r18 v22 (1 : Int32) a0 h0 h0 M30)
  exact n_vret hC dX5_findEnd_98
def f_X5_findEnd (M : Me) (a0 : Nat) : Option (Unit × Me) := bndV ((M.1 a0 24) - (22 : Int32)) (fun v1 => l_X5_findEnd_10 (fun v9 v10 M11 => j_X5_findEnd_84 a0 v9 v10 M11) a0 v1 (0 : Int32) M)
set_option maxHeartbeats 4000000 in
set_option maxRecDepth 100000 in
theorem c_X5_findEnd (l : Launch) (M : Me) (a0 : Nat) (h0 : kd a0 = 5) : CN l yX5_findEnd cX5_findEnd 7 none (k2_rm 2 42) eV (fun b => [.ref (b + a0)]) M (f_X5_findEnd M a0) := by
  refine CN.of RX5 (fun b => [(0, .ref (b + a0))]) (by decide) rfl (fun b => Nat.le_of_ble_eq_true rfl) (fun b => rfl) ?_
  intro p e s m args below meth c D T b hC
  unfold f_X5_findEnd
  refine n_aload_n hC 0 rfl dX5_findEnd_0 ?_
  refine n_get hC clX5 h0 24 (.int (M.1 a0 24)) (by decide) rfl fl_X5_180 rfl dX5_findEnd_1 ?_
  refine n_bipush hC (22 : Int32) (by decide) dX5_findEnd_4 ?_
  refine n_isub hC dX5_findEnd_6 ?_
  refine n_istB_n hC rfl (fun v1 => [(1, .int v1), (0, .ref (b + a0))]) (by decide) (fun _ => rfl) dX5_findEnd_7 (fun v1 => ?_)
  refine n_iconst hC (0 : Int32) (by decide) dX5_findEnd_8 ?_
  refine n_istore_n hC rfl [(2, .int (0 : Int32)), (1, .int v1), (0, .ref (b + a0))] (by decide) rfl dX5_findEnd_9 ?_
  refine GN.sub [2, 1, 0] rfl (b_X5_findEnd_10 hC a0 v1 (0 : Int32) h0 _ (fun v9 v10 M11 => ?_) M)
  exact GN.sub [0, 1, 2] rfl (b_X5_findEnd_84 hC a0 v9 v10 h0 M11)
def j_X5_findRows_134 (kx : Int32 → Int32 → Me → Option (Unit × Me)) (kb : Int32 × Int32 × Me → Option (Unit × Me)) (a0 : Nat) (x1 : Int32) (x2 : Int32) (M : Me) : Option (Unit × Me) := bndV (x2 + (1 : Int32)) (fun v4 => kb (x1, v4, M))
set_option maxHeartbeats 4000000 in
set_option maxRecDepth 100000 in
theorem b_X5_findRows_134 {p : Program} {l : Launch} {e : Env} {s : State} {m : MethodId} {args : Array Value} {below : List Frame} {meth : Method} {c : Code} {D : va_G} {T : Nat → ClassId} {b : Nat} (hC : CX p s m args meth c cX5_findRows 5 RX5 none D T) (a0 : Nat) (x1 : Int32) (x2 : Int32) (h0 : kd a0 = 5) (kx : Int32 → Int32 → Me → Option (Unit × Me)) (hkx : ∀ (x1 : Int32) (x2 : Int32) (M : Me), GN p l e (k2_rm 2 42) s m args below meth c D T b 5 eV 140 [(0, .ref (b + a0)), (1, .int x1)] [] M (kx x1 x2 M)) (kb : Int32 × Int32 × Me → Option (Unit × Me)) (hkb : ∀ z : Int32 × Int32 × Me, GN p l e (k2_rm 2 42) s m args below meth c D T b 5 eV 7 [(0, .ref (b + a0)), (1, .int z.1), (2, .int z.2.1)] [] z.2.2 (kb z)) (M : Me) : GN p l e (k2_rm 2 42) s m args below meth c D T b 5 eV 134 [(0, .ref (b + a0)), (1, .int x1), (2, .int x2)] [] M (j_X5_findRows_134 kx kb a0 x1 x2 M) := by
  unfold j_X5_findRows_134
  refine n_iincB hC (1 : Int32) (by decide) (fun v4 => [(2, .int v4), (0, .ref (b + a0)), (1, .int x1)]) 2 rfl (by decide) (fun _ => rfl) dX5_findRows_134 (fun v4 => ?_)
  refine n_goto hC (tgt := 7) (by decide) dX5_findRows_137 ?_
  exact GN.sub [1, 2, 0] rfl (hkb (x1, v4, M))
def j_X5_findRows_113 (kx : Int32 → Int32 → Me → Option (Unit × Me)) (kb : Int32 × Int32 × Me → Option (Unit × Me)) (a0 : Nat) (x1 : Int32) (x2 : Int32) (x4 : Int32) (s0 : Int32) (s1 : Nat) (M : Me) : Option (Unit × Me) := cal (f_X5_want M s1 s0 (3 : Int32) x1.toInt64) (fun r2 M3 => if r2 = (0 : Int32) then j_X5_findRows_134 kx kb a0 x1 x2 M3 else chk x2 (ln (rf a0 33)) (bnd (sI M3 (rf a0 33) x2.toNatClampNeg x1) (fun M5 => bndV (x1 + x4) (fun v6 => j_X5_findRows_134 kx kb a0 v6 x2 M5))))
set_option maxHeartbeats 4000000 in
set_option maxRecDepth 100000 in
theorem b_X5_findRows_113 {p : Program} {l : Launch} {e : Env} {s : State} {m : MethodId} {args : Array Value} {below : List Frame} {meth : Method} {c : Code} {D : va_G} {T : Nat → ClassId} {b : Nat} (hC : CX p s m args meth c cX5_findRows 5 RX5 none D T) (a0 : Nat) (x1 : Int32) (x2 : Int32) (x4 : Int32) (s0 : Int32) (s1 : Nat) (h0 : kd a0 = 5) (hs1 : kd s1 = 5) (kx : Int32 → Int32 → Me → Option (Unit × Me)) (hkx : ∀ (x1 : Int32) (x2 : Int32) (M : Me), GN p l e (k2_rm 2 42) s m args below meth c D T b 5 eV 140 [(0, .ref (b + a0)), (1, .int x1)] [] M (kx x1 x2 M)) (kb : Int32 × Int32 × Me → Option (Unit × Me)) (hkb : ∀ z : Int32 × Int32 × Me, GN p l e (k2_rm 2 42) s m args below meth c D T b 5 eV 7 [(0, .ref (b + a0)), (1, .int z.1), (2, .int z.2.1)] [] z.2.2 (kb z)) (M : Me) : GN p l e (k2_rm 2 42) s m args below meth c D T b 5 eV 113 [(0, .ref (b + a0)), (1, .int x1), (2, .int x2), (4, .int x4)] [.int s0, .ref (b + s1)] M (j_X5_findRows_113 kx kb a0 x1 x2 x4 s0 s1 M) := by
  unfold j_X5_findRows_113
  refine n_iconst hC (3 : Int32) (by decide) dX5_findRows_113 ?_
  refine n_iload_n hC 1 rfl dX5_findRows_114 ?_
  refine n_i2l hC dX5_findRows_115 ?_
  refine n_callVi (As := [.int s0, .int (3 : Int32), .long x1.toInt64]) (rest := []) hs1 rfl (by decide) hC (c_X5_want l M s1 s0 (3 : Int32) x1.toInt64 hs1) my_X5_want ml_X5_200 rfl rfl rfl (Nat.le_of_ble_eq_true rfl) ⟨by decide, by decide⟩ dX5_findRows_116 (fun r2 M3 => ?_)
  refine n_if_eq hC 134 dX5_findRows_119 (by decide) ?_ ?_
  · exact GN.sub [0, 1, 2] rfl (b_X5_findRows_134 hC a0 x1 x2 h0 kx hkx kb hkb M3)
  refine n_aload_n hC 0 rfl dX5_findRows_122 ?_
  refine n_get hC clX5 h0 33 (.ref (b + (rf a0 33))) (by decide) rfl fl_X5_216 rfl dX5_findRows_123 ?_
  refine n_iload_n hC 2 rfl dX5_findRows_126 ?_
  refine n_iload_n hC 1 rfl dX5_findRows_127 ?_
  refine n_iast hC (kf_X5_33 h0) dX5_findRows_128 (fun M5 => ?_)
  refine n_iload_n hC 1 rfl dX5_findRows_129 ?_
  refine n_iload hC 3 rfl dX5_findRows_130 ?_
  refine n_iadd hC dX5_findRows_132 ?_
  refine n_istB_n hC rfl (fun v6 => [(1, .int v6), (0, .ref (b + a0)), (2, .int x2), (4, .int x4)]) (by decide) (fun _ => rfl) dX5_findRows_133 (fun v6 => ?_)
  exact GN.sub [1, 0, 2] rfl (b_X5_findRows_134 hC a0 v6 x2 h0 kx hkx kb hkb M5)
def j_X5_findRows_112 (kx : Int32 → Int32 → Me → Option (Unit × Me)) (kb : Int32 × Int32 × Me → Option (Unit × Me)) (a0 : Nat) (x1 : Int32) (x2 : Int32) (x4 : Int32) (s0 : Nat) (M : Me) : Option (Unit × Me) := j_X5_findRows_113 kx kb a0 x1 x2 x4 (0 : Int32) s0 M
set_option maxHeartbeats 4000000 in
set_option maxRecDepth 100000 in
theorem b_X5_findRows_112 {p : Program} {l : Launch} {e : Env} {s : State} {m : MethodId} {args : Array Value} {below : List Frame} {meth : Method} {c : Code} {D : va_G} {T : Nat → ClassId} {b : Nat} (hC : CX p s m args meth c cX5_findRows 5 RX5 none D T) (a0 : Nat) (x1 : Int32) (x2 : Int32) (x4 : Int32) (s0 : Nat) (h0 : kd a0 = 5) (hs0 : kd s0 = 5) (kx : Int32 → Int32 → Me → Option (Unit × Me)) (hkx : ∀ (x1 : Int32) (x2 : Int32) (M : Me), GN p l e (k2_rm 2 42) s m args below meth c D T b 5 eV 140 [(0, .ref (b + a0)), (1, .int x1)] [] M (kx x1 x2 M)) (kb : Int32 × Int32 × Me → Option (Unit × Me)) (hkb : ∀ z : Int32 × Int32 × Me, GN p l e (k2_rm 2 42) s m args below meth c D T b 5 eV 7 [(0, .ref (b + a0)), (1, .int z.1), (2, .int z.2.1)] [] z.2.2 (kb z)) (M : Me) : GN p l e (k2_rm 2 42) s m args below meth c D T b 5 eV 112 [(0, .ref (b + a0)), (1, .int x1), (2, .int x2), (4, .int x4)] [.ref (b + s0)] M (j_X5_findRows_112 kx kb a0 x1 x2 x4 s0 M) := by
  unfold j_X5_findRows_112
  refine n_iconst hC (0 : Int32) (by decide) dX5_findRows_112 ?_
  exact GN.sub [0, 1, 2, 3] rfl (b_X5_findRows_113 hC a0 x1 x2 x4 (0 : Int32) s0 h0 hs0 kx hkx kb hkb M)
def j_X5_findRows_90 (kx : Int32 → Int32 → Me → Option (Unit × Me)) (kb : Int32 × Int32 × Me → Option (Unit × Me)) (a0 : Nat) (x1 : Int32) (x2 : Int32) (x3 : Int32) (s0 : Int32) (M : Me) : Option (Unit × Me) := if x3 = (0 : Int32) then j_X5_findRows_112 kx kb a0 x1 x2 s0 a0 M else if (M.1 a0 32) < (x1 + s0) then j_X5_findRows_112 kx kb a0 x1 x2 s0 a0 M else j_X5_findRows_113 kx kb a0 x1 x2 s0 (1 : Int32) a0 M
set_option maxHeartbeats 4000000 in
set_option maxRecDepth 100000 in
theorem b_X5_findRows_90 {p : Program} {l : Launch} {e : Env} {s : State} {m : MethodId} {args : Array Value} {below : List Frame} {meth : Method} {c : Code} {D : va_G} {T : Nat → ClassId} {b : Nat} (hC : CX p s m args meth c cX5_findRows 5 RX5 none D T) (a0 : Nat) (x1 : Int32) (x2 : Int32) (x3 : Int32) (s0 : Int32) (h0 : kd a0 = 5) (kx : Int32 → Int32 → Me → Option (Unit × Me)) (hkx : ∀ (x1 : Int32) (x2 : Int32) (M : Me), GN p l e (k2_rm 2 42) s m args below meth c D T b 5 eV 140 [(0, .ref (b + a0)), (1, .int x1)] [] M (kx x1 x2 M)) (kb : Int32 × Int32 × Me → Option (Unit × Me)) (hkb : ∀ z : Int32 × Int32 × Me, GN p l e (k2_rm 2 42) s m args below meth c D T b 5 eV 7 [(0, .ref (b + a0)), (1, .int z.1), (2, .int z.2.1)] [] z.2.2 (kb z)) (M : Me) : GN p l e (k2_rm 2 42) s m args below meth c D T b 5 eV 90 [(0, .ref (b + a0)), (1, .int x1), (2, .int x2), (3, .int x3)] [.int s0] M (j_X5_findRows_90 kx kb a0 x1 x2 x3 s0 M) := by
  unfold j_X5_findRows_90
  refine n_istore hC [(4, .int s0), (0, .ref (b + a0)), (1, .int x1), (2, .int x2), (3, .int x3)] (by decide) rfl dX5_findRows_90 ?_
  refine n_aload_n hC 1 rfl dX5_findRows_92 ?_
  refine n_iload_n hC 4 rfl dX5_findRows_93 ?_
  refine n_if_eq hC 112 dX5_findRows_94 (by decide) ?_ ?_
  · exact GN.sub [1, 2, 3, 0] rfl (b_X5_findRows_112 hC a0 x1 x2 s0 a0 h0 h0 kx hkx kb hkb M)
  refine n_iload_n hC 2 rfl dX5_findRows_97 ?_
  refine n_iload hC 0 rfl dX5_findRows_98 ?_
  refine n_iadd hC dX5_findRows_100 ?_
  refine n_aload_n hC 1 rfl dX5_findRows_101 ?_
  refine n_get hC clX5 h0 32 (.int (M.1 a0 32)) (by decide) rfl fl_X5_213 rfl dX5_findRows_102 ?_
  refine n_icmp_gt hC 112 dX5_findRows_105 (by decide) ?_ ?_
  · exact GN.sub [1, 2, 3, 0] rfl (b_X5_findRows_112 hC a0 x1 x2 s0 a0 h0 h0 kx hkx kb hkb M)
  refine n_iconst hC (1 : Int32) (by decide) dX5_findRows_108 ?_
  refine n_goto hC (tgt := 113) (by decide) dX5_findRows_109 ?_
  exact GN.sub [1, 2, 3, 0] rfl (b_X5_findRows_113 hC a0 x1 x2 s0 (1 : Int32) a0 h0 h0 kx hkx kb hkb M)
def j_X5_findRows_61 (kx : Int32 → Int32 → Me → Option (Unit × Me)) (kb : Int32 × Int32 × Me → Option (Unit × Me)) (a0 : Nat) (x1 : Int32) (x2 : Int32) (s0 : Int32) (M : Me) : Option (Unit × Me) := if s0 = (0 : Int32) then j_X5_findRows_90 kx kb a0 x1 x2 s0 (0 : Int32) M else cal (f_X5_two M a0 (x1 + (28 : Int32))) (fun r7 M8 => cal (f_X5_two M8 a0 (x1 + (30 : Int32))) (fun r9 M10 => j_X5_findRows_90 kx kb a0 x1 x2 s0 (((46 : Int32) + r7) + r9) M10))
set_option maxHeartbeats 4000000 in
set_option maxRecDepth 100000 in
theorem b_X5_findRows_61 {p : Program} {l : Launch} {e : Env} {s : State} {m : MethodId} {args : Array Value} {below : List Frame} {meth : Method} {c : Code} {D : va_G} {T : Nat → ClassId} {b : Nat} (hC : CX p s m args meth c cX5_findRows 5 RX5 none D T) (a0 : Nat) (x1 : Int32) (x2 : Int32) (s0 : Int32) (h0 : kd a0 = 5) (kx : Int32 → Int32 → Me → Option (Unit × Me)) (hkx : ∀ (x1 : Int32) (x2 : Int32) (M : Me), GN p l e (k2_rm 2 42) s m args below meth c D T b 5 eV 140 [(0, .ref (b + a0)), (1, .int x1)] [] M (kx x1 x2 M)) (kb : Int32 × Int32 × Me → Option (Unit × Me)) (hkb : ∀ z : Int32 × Int32 × Me, GN p l e (k2_rm 2 42) s m args below meth c D T b 5 eV 7 [(0, .ref (b + a0)), (1, .int z.1), (2, .int z.2.1)] [] z.2.2 (kb z)) (M : Me) : GN p l e (k2_rm 2 42) s m args below meth c D T b 5 eV 61 [(0, .ref (b + a0)), (1, .int x1), (2, .int x2)] [.int s0] M (j_X5_findRows_61 kx kb a0 x1 x2 s0 M) := by
  unfold j_X5_findRows_61
  refine n_istore_n hC rfl [(3, .int s0), (0, .ref (b + a0)), (1, .int x1), (2, .int x2)] (by decide) rfl dX5_findRows_61 ?_
  refine n_iload_n hC 0 rfl dX5_findRows_62 ?_
  refine n_if_eq hC 89 dX5_findRows_63 (by decide) ?_ ?_
  · refine n_iconst hC (0 : Int32) (by decide) dX5_findRows_89 ?_
    exact GN.sub [1, 2, 3, 0] rfl (b_X5_findRows_90 hC a0 x1 x2 s0 (0 : Int32) h0 kx hkx kb hkb M)
  refine n_bipush hC (46 : Int32) (by decide) dX5_findRows_66 ?_
  refine n_aload_n hC 1 rfl dX5_findRows_68 ?_
  refine n_iload_n hC 2 rfl dX5_findRows_69 ?_
  refine n_bipush hC (28 : Int32) (by decide) dX5_findRows_70 ?_
  refine n_iadd hC dX5_findRows_72 ?_
  refine n_callVi (As := [.int (x1 + (28 : Int32))]) (rest := [.int (46 : Int32)]) h0 rfl (by decide) hC (c_X5_two l M a0 (x1 + (28 : Int32)) h0) my_X5_two ml_X5_193 rfl rfl rfl (Nat.le_of_ble_eq_true rfl) ⟨by decide, by decide⟩ dX5_findRows_73 (fun r7 M8 => ?_)
  refine n_iadd hC dX5_findRows_76 ?_
  refine n_aload_n hC 1 rfl dX5_findRows_77 ?_
  refine n_iload_n hC 2 rfl dX5_findRows_78 ?_
  refine n_bipush hC (30 : Int32) (by decide) dX5_findRows_79 ?_
  refine n_iadd hC dX5_findRows_81 ?_
  refine n_callVi (As := [.int (x1 + (30 : Int32))]) (rest := [.int ((46 : Int32) + r7)]) h0 rfl (by decide) hC (c_X5_two l M8 a0 (x1 + (30 : Int32)) h0) my_X5_two ml_X5_193 rfl rfl rfl (Nat.le_of_ble_eq_true rfl) ⟨by decide, by decide⟩ dX5_findRows_82 (fun r9 M10 => ?_)
  refine n_iadd hC dX5_findRows_85 ?_
  refine n_goto hC (tgt := 90) (by decide) dX5_findRows_86 ?_
  exact GN.sub [1, 2, 3, 0] rfl (b_X5_findRows_90 hC a0 x1 x2 s0 (((46 : Int32) + r7) + r9) h0 kx hkx kb hkb M10)
def j_X5_findRows_60 (kx : Int32 → Int32 → Me → Option (Unit × Me)) (kb : Int32 × Int32 × Me → Option (Unit × Me)) (a0 : Nat) (x1 : Int32) (x2 : Int32) (M : Me) : Option (Unit × Me) := j_X5_findRows_61 kx kb a0 x1 x2 (0 : Int32) M
set_option maxHeartbeats 4000000 in
set_option maxRecDepth 100000 in
theorem b_X5_findRows_60 {p : Program} {l : Launch} {e : Env} {s : State} {m : MethodId} {args : Array Value} {below : List Frame} {meth : Method} {c : Code} {D : va_G} {T : Nat → ClassId} {b : Nat} (hC : CX p s m args meth c cX5_findRows 5 RX5 none D T) (a0 : Nat) (x1 : Int32) (x2 : Int32) (h0 : kd a0 = 5) (kx : Int32 → Int32 → Me → Option (Unit × Me)) (hkx : ∀ (x1 : Int32) (x2 : Int32) (M : Me), GN p l e (k2_rm 2 42) s m args below meth c D T b 5 eV 140 [(0, .ref (b + a0)), (1, .int x1)] [] M (kx x1 x2 M)) (kb : Int32 × Int32 × Me → Option (Unit × Me)) (hkb : ∀ z : Int32 × Int32 × Me, GN p l e (k2_rm 2 42) s m args below meth c D T b 5 eV 7 [(0, .ref (b + a0)), (1, .int z.1), (2, .int z.2.1)] [] z.2.2 (kb z)) (M : Me) : GN p l e (k2_rm 2 42) s m args below meth c D T b 5 eV 60 [(0, .ref (b + a0)), (1, .int x1), (2, .int x2)] [] M (j_X5_findRows_60 kx kb a0 x1 x2 M) := by
  unfold j_X5_findRows_60
  refine n_iconst hC (0 : Int32) (by decide) dX5_findRows_60 ?_
  exact GN.sub [0, 1, 2] rfl (b_X5_findRows_61 hC a0 x1 x2 (0 : Int32) h0 kx hkx kb hkb M)
def g_X5_findRows_7 (kx : Int32 → Int32 → Me → Option (Unit × Me)) (kb : Int32 × Int32 × Me → Option (Unit × Me)) (a0 : Nat) (x1 : Int32) (x2 : Int32) (M : Me) : Option (Unit × Me) := if (M.1 a0 30) ≤ x2 then kx x1 x2 M else if (M.1 a0 27) = (0 : Int32) then if (M.1 a0 32) < (x1 + (46 : Int32)) then j_X5_findRows_60 kx kb a0 x1 x2 M else cal (f_X5_four M a0 x1) (fun r11 M12 => if (lg_cmp r11 (33639248 : Int64)) = (0 : Int32) then cal (f_X5_two M12 a0 (x1 + (32 : Int32))) (fun r13 M14 => if r13 = (0 : Int32) then j_X5_findRows_61 kx kb a0 x1 x2 (1 : Int32) M14 else j_X5_findRows_60 kx kb a0 x1 x2 M14) else j_X5_findRows_60 kx kb a0 x1 x2 M12) else kx x1 x2 M
set_option maxHeartbeats 4000000 in
set_option maxRecDepth 100000 in
theorem b_X5_findRows_7_g {p : Program} {l : Launch} {e : Env} {s : State} {m : MethodId} {args : Array Value} {below : List Frame} {meth : Method} {c : Code} {D : va_G} {T : Nat → ClassId} {b : Nat} (hC : CX p s m args meth c cX5_findRows 5 RX5 none D T) (a0 : Nat) (x1 : Int32) (x2 : Int32) (h0 : kd a0 = 5) (kx : Int32 → Int32 → Me → Option (Unit × Me)) (hkx : ∀ (x1 : Int32) (x2 : Int32) (M : Me), GN p l e (k2_rm 2 42) s m args below meth c D T b 5 eV 140 [(0, .ref (b + a0)), (1, .int x1)] [] M (kx x1 x2 M)) (kb : Int32 × Int32 × Me → Option (Unit × Me)) (hkb : ∀ z : Int32 × Int32 × Me, GN p l e (k2_rm 2 42) s m args below meth c D T b 5 eV 7 [(0, .ref (b + a0)), (1, .int z.1), (2, .int z.2.1)] [] z.2.2 (kb z)) (M : Me) : GN p l e (k2_rm 2 42) s m args below meth c D T b 5 eV 7 [(0, .ref (b + a0)), (1, .int x1), (2, .int x2)] [] M (g_X5_findRows_7 kx kb a0 x1 x2 M) := by
  unfold g_X5_findRows_7
  refine n_iload_n hC 2 rfl dX5_findRows_7 ?_
  refine n_aload_n hC 0 rfl dX5_findRows_8 ?_
  refine n_get hC clX5 h0 30 (.int (M.1 a0 30)) (by decide) rfl fl_X5_207 rfl dX5_findRows_9 ?_
  refine n_icmp_ge hC 140 dX5_findRows_12 (by decide) ?_ ?_
  · exact GN.sub [0, 1] rfl (hkx x1 x2 M)
  refine n_aload_n hC 0 rfl dX5_findRows_15 ?_
  refine n_get hC clX5 h0 27 (.int (M.1 a0 27)) (by decide) rfl fl_X5_187 rfl dX5_findRows_16 ?_
  refine n_if_ne hC 140 dX5_findRows_19 (by decide) ?_ ?_
  · exact GN.sub [0, 1] rfl (hkx x1 x2 M)
  refine n_iload_n hC 1 rfl dX5_findRows_22 ?_
  refine n_bipush hC (46 : Int32) (by decide) dX5_findRows_23 ?_
  refine n_iadd hC dX5_findRows_25 ?_
  refine n_aload_n hC 0 rfl dX5_findRows_26 ?_
  refine n_get hC clX5 h0 32 (.int (M.1 a0 32)) (by decide) rfl fl_X5_213 rfl dX5_findRows_27 ?_
  refine n_icmp_gt hC 60 dX5_findRows_30 (by decide) ?_ ?_
  · exact GN.sub [0, 1, 2] rfl (b_X5_findRows_60 hC a0 x1 x2 h0 kx hkx kb hkb M)
  refine n_aload_n hC 0 rfl dX5_findRows_33 ?_
  refine n_iload_n hC 1 rfl dX5_findRows_34 ?_
  refine n_callVl (As := [.int x1]) (rest := []) h0 rfl (by decide) hC (c_X5_four l M a0 x1 h0) my_X5_four ml_X5_196 rfl rfl rfl (Nat.le_of_ble_eq_true rfl) ⟨by decide, by decide⟩ dX5_findRows_35 (fun r11 M12 => ?_)
  refine n_ldc2 hC (33639248 : Int64) kc_X5_176 dX5_findRows_38 ?_
  refine n_lcmp hC dX5_findRows_41 ?_
  refine n_if_ne hC 60 dX5_findRows_42 (by decide) ?_ ?_
  · exact GN.sub [0, 1, 2] rfl (b_X5_findRows_60 hC a0 x1 x2 h0 kx hkx kb hkb M12)
  refine n_aload_n hC 0 rfl dX5_findRows_45 ?_
  refine n_iload_n hC 1 rfl dX5_findRows_46 ?_
  refine n_bipush hC (32 : Int32) (by decide) dX5_findRows_47 ?_
  refine n_iadd hC dX5_findRows_49 ?_
  refine n_callVi (As := [.int (x1 + (32 : Int32))]) (rest := []) h0 rfl (by decide) hC (c_X5_two l M12 a0 (x1 + (32 : Int32)) h0) my_X5_two ml_X5_193 rfl rfl rfl (Nat.le_of_ble_eq_true rfl) ⟨by decide, by decide⟩ dX5_findRows_50 (fun r13 M14 => ?_)
  refine n_if_ne hC 60 dX5_findRows_53 (by decide) ?_ ?_
  · exact GN.sub [0, 1, 2] rfl (b_X5_findRows_60 hC a0 x1 x2 h0 kx hkx kb hkb M14)
  refine n_iconst hC (1 : Int32) (by decide) dX5_findRows_56 ?_
  refine n_goto hC (tgt := 61) (by decide) dX5_findRows_57 ?_
  exact GN.sub [0, 1, 2] rfl (b_X5_findRows_61 hC a0 x1 x2 (1 : Int32) h0 kx hkx kb hkb M14)
def l_X5_findRows_7 (kx : Int32 → Int32 → Me → Option (Unit × Me)) (a0 : Nat) (x1 : Int32) (x2 : Int32) (M : Me) : Option (Unit × Me) := lp (fun kb z => g_X5_findRows_7 kx kb a0 z.1 z.2.1 z.2.2) FU (x1, x2, M)
set_option maxHeartbeats 4000000 in
set_option maxRecDepth 100000 in
theorem b_X5_findRows_7 {p : Program} {l : Launch} {e : Env} {s : State} {m : MethodId} {args : Array Value} {below : List Frame} {meth : Method} {c : Code} {D : va_G} {T : Nat → ClassId} {b : Nat} (hC : CX p s m args meth c cX5_findRows 5 RX5 none D T) (a0 : Nat) (x1 : Int32) (x2 : Int32) (h0 : kd a0 = 5) (kx : Int32 → Int32 → Me → Option (Unit × Me)) (hkx : ∀ (x1 : Int32) (x2 : Int32) (M : Me), GN p l e (k2_rm 2 42) s m args below meth c D T b 5 eV 140 [(0, .ref (b + a0)), (1, .int x1)] [] M (kx x1 x2 M)) (M : Me) : GN p l e (k2_rm 2 42) s m args below meth c D T b 5 eV 7 [(0, .ref (b + a0)), (1, .int x1), (2, .int x2)] [] M (l_X5_findRows_7 kx a0 x1 x2 M) := by
  exact n_loop (σ := Int32 × Int32 × Me) (fun z => [(0, .ref (b + a0)), (1, .int z.1), (2, .int z.2.1)]) (fun z => z.2.2) (fun kb hkb z => b_X5_findRows_7_g hC a0 z.1 z.2.1 h0 kx hkx kb hkb z.2.2) FU (x1, x2, M)
def j_X5_findRows_154 (x1 : Int32) (s0 : Int32) (s1 : Nat) (M : Me) : Option (Unit × Me) := cal (f_X5_want M s1 s0 (3 : Int32) x1.toInt64) (fun r18 M19 => some ((), M19))
set_option maxHeartbeats 4000000 in
set_option maxRecDepth 100000 in
theorem b_X5_findRows_154 {p : Program} {l : Launch} {e : Env} {s : State} {m : MethodId} {args : Array Value} {below : List Frame} {meth : Method} {c : Code} {D : va_G} {T : Nat → ClassId} {b : Nat} (hC : CX p s m args meth c cX5_findRows 5 RX5 none D T) (x1 : Int32) (s0 : Int32) (s1 : Nat) (hs1 : kd s1 = 5) (M : Me) : GN p l e (k2_rm 2 42) s m args below meth c D T b 5 eV 154 [(1, .int x1)] [.int s0, .ref (b + s1)] M (j_X5_findRows_154 x1 s0 s1 M) := by
  unfold j_X5_findRows_154
  refine n_iconst hC (3 : Int32) (by decide) dX5_findRows_154 ?_
  refine n_iload_n hC 0 rfl dX5_findRows_155 ?_
  refine n_i2l hC dX5_findRows_156 ?_
  refine n_callVi (As := [.int s0, .int (3 : Int32), .long x1.toInt64]) (rest := []) hs1 rfl (by decide) hC (c_X5_want l M s1 s0 (3 : Int32) x1.toInt64 hs1) my_X5_want ml_X5_200 rfl rfl rfl (Nat.le_of_ble_eq_true rfl) ⟨by decide, by decide⟩ dX5_findRows_157 (fun r18 M19 => ?_)
  refine n_pop hC rfl dX5_findRows_160 ?_
  exact n_vret hC dX5_findRows_161
def j_X5_findRows_140 (a0 : Nat) (x1 : Int32) (M : Me) : Option (Unit × Me) := if x1 = (M.1 a0 32) then j_X5_findRows_154 x1 (1 : Int32) a0 M else j_X5_findRows_154 x1 (0 : Int32) a0 M
set_option maxHeartbeats 4000000 in
set_option maxRecDepth 100000 in
theorem b_X5_findRows_140 {p : Program} {l : Launch} {e : Env} {s : State} {m : MethodId} {args : Array Value} {below : List Frame} {meth : Method} {c : Code} {D : va_G} {T : Nat → ClassId} {b : Nat} (hC : CX p s m args meth c cX5_findRows 5 RX5 none D T) (a0 : Nat) (x1 : Int32) (h0 : kd a0 = 5) (M : Me) : GN p l e (k2_rm 2 42) s m args below meth c D T b 5 eV 140 [(0, .ref (b + a0)), (1, .int x1)] [] M (j_X5_findRows_140 a0 x1 M) := by
  unfold j_X5_findRows_140
  refine n_aload_n hC 0 rfl dX5_findRows_140 ?_
  refine n_iload_n hC 1 rfl dX5_findRows_141 ?_
  refine n_aload_n hC 0 rfl dX5_findRows_142 ?_
  refine n_get hC clX5 h0 32 (.int (M.1 a0 32)) (by decide) rfl fl_X5_213 rfl dX5_findRows_143 ?_
  refine n_icmp_ne hC 153 dX5_findRows_146 (by decide) ?_ ?_
  · refine n_iconst hC (0 : Int32) (by decide) dX5_findRows_153 ?_
    exact GN.sub [1] rfl (b_X5_findRows_154 hC x1 (0 : Int32) a0 h0 M)
  refine n_iconst hC (1 : Int32) (by decide) dX5_findRows_149 ?_
  refine n_goto hC (tgt := 154) (by decide) dX5_findRows_150 ?_
  exact GN.sub [1] rfl (b_X5_findRows_154 hC x1 (1 : Int32) a0 h0 M)
def f_X5_findRows (M : Me) (a0 : Nat) : Option (Unit × Me) := bndV (M.1 a0 31) (fun v1 => l_X5_findRows_7 (fun v15 v16 M17 => j_X5_findRows_140 a0 v15 M17) a0 v1 (0 : Int32) M)
set_option maxHeartbeats 4000000 in
set_option maxRecDepth 100000 in
theorem c_X5_findRows (l : Launch) (M : Me) (a0 : Nat) (h0 : kd a0 = 5) : CN l yX5_findRows cX5_findRows 5 none (k2_rm 2 42) eV (fun b => [.ref (b + a0)]) M (f_X5_findRows M a0) := by
  refine CN.of RX5 (fun b => [(0, .ref (b + a0))]) (by decide) rfl (fun b => Nat.le_of_ble_eq_true rfl) (fun b => rfl) ?_
  intro p e s m args below meth c D T b hC
  unfold f_X5_findRows
  refine n_aload_n hC 0 rfl dX5_findRows_0 ?_
  refine n_get hC clX5 h0 31 (.int (M.1 a0 31)) (by decide) rfl fl_X5_210 rfl dX5_findRows_1 ?_
  refine n_istB_n hC rfl (fun v1 => [(1, .int v1), (0, .ref (b + a0))]) (by decide) (fun _ => rfl) dX5_findRows_4 (fun v1 => ?_)
  refine n_iconst hC (0 : Int32) (by decide) dX5_findRows_5 ?_
  refine n_istore_n hC rfl [(2, .int (0 : Int32)), (1, .int v1), (0, .ref (b + a0))] (by decide) rfl dX5_findRows_6 ?_
  refine GN.sub [2, 1, 0] rfl (b_X5_findRows_7 hC a0 v1 (0 : Int32) h0 _ (fun v15 v16 M17 => ?_) M)
  exact GN.sub [0, 1] rfl (b_X5_findRows_140 hC a0 v15 h0 M17)
def j_X5_hasParts_114 (kx : Int32 → Me → Option (Int32 × Me)) (kb : Int32 × Me → Option (Int32 × Me)) (a0 : Nat) (x1 : Int32) (x2 : Int32) (x3 : Int32) (x5 : Int32) (M : Me) : Option (Int32 × Me) := bndV (x3 + ((4 : Int32) + x5)) (fun v8 => kb (v8, M))
set_option maxHeartbeats 4000000 in
set_option maxRecDepth 100000 in
theorem b_X5_hasParts_114 {p : Program} {l : Launch} {e : Env} {s : State} {m : MethodId} {args : Array Value} {below : List Frame} {meth : Method} {c : Code} {D : va_G} {T : Nat → ClassId} {b : Nat} (hC : CX p s m args meth c cX5_hasParts 6 RX5 (some .boolean) D T) (a0 : Nat) (x1 : Int32) (x2 : Int32) (x3 : Int32) (x5 : Int32) (h0 : kd a0 = 5) (kx : Int32 → Me → Option (Int32 × Me)) (hkx : ∀ (x3 : Int32) (M : Me), GN p l e (k2_rm 1 21) s m args below meth c D T b 6 eI 124 [] [] M (kx x3 M)) (kb : Int32 × Me → Option (Int32 × Me)) (hkb : ∀ z : Int32 × Me, GN p l e (k2_rm 1 21) s m args below meth c D T b 6 eI 12 [(0, .ref (b + a0)), (1, .int x1), (2, .int x2), (3, .int z.1)] [] z.2 (kb z)) (M : Me) : GN p l e (k2_rm 1 21) s m args below meth c D T b 6 eI 114 [(0, .ref (b + a0)), (1, .int x1), (2, .int x2), (3, .int x3), (5, .int x5)] [] M (j_X5_hasParts_114 kx kb a0 x1 x2 x3 x5 M) := by
  unfold j_X5_hasParts_114
  refine n_iload_n hC 3 rfl dX5_hasParts_114 ?_
  refine n_iconst hC (4 : Int32) (by decide) dX5_hasParts_115 ?_
  refine n_iload hC 4 rfl dX5_hasParts_116 ?_
  refine n_iadd hC dX5_hasParts_118 ?_
  refine n_iadd hC dX5_hasParts_119 ?_
  refine n_istB_n hC rfl (fun v8 => [(3, .int v8), (0, .ref (b + a0)), (1, .int x1), (2, .int x2), (5, .int x5)]) (by decide) (fun _ => rfl) dX5_hasParts_120 (fun v8 => ?_)
  refine n_goto hC (tgt := 12) (by decide) dX5_hasParts_121 ?_
  exact GN.sub [1, 2, 3, 0] rfl (hkb (v8, M))
def g_X5_hasParts_12 (kx : Int32 → Me → Option (Int32 × Me)) (kb : Int32 × Me → Option (Int32 × Me)) (a0 : Nat) (x1 : Int32) (x2 : Int32) (x3 : Int32) (M : Me) : Option (Int32 × Me) := if x2 ≤ x3 then kx x3 M else if (x3 + (4 : Int32)) ≤ x2 then cal (f_X5_two M a0 x3) (fun r3 M4 => cal (f_X5_two M4 a0 (x3 + (2 : Int32))) (fun r5 M6 => if x2 < ((x3 + (4 : Int32)) + r5) then chZ (0 : Int32) (some ((0 : Int32), M6)) else if r3 = (0 : Int32) then chZ (0 : Int32) (some ((0 : Int32), M6)) else if r3 = (1 : Int32) then if x1 < x3 then chZ (0 : Int32) (some ((0 : Int32), M6)) else if r5 = (16 : Int32) then chZ (1 : Int32) (bnd (sI M6 a0 37 (1 : Int32)) (fun M9 => j_X5_hasParts_114 kx kb a0 x1 x2 x3 r5 M9)) else chZ (0 : Int32) (some ((0 : Int32), M6)) else bnd (sI M6 a0 38 ((M6.1 a0 38) + (1 : Int32))) (fun M7 => if (8 : Int32) < r5 then chZ (0 : Int32) (some ((0 : Int32), M7)) else if (M7.1 a0 38) ≤ (3 : Int32) then j_X5_hasParts_114 kx kb a0 x1 x2 x3 r5 M7 else chZ (0 : Int32) (some ((0 : Int32), M7))))) else chZ (0 : Int32) (some ((0 : Int32), M))
set_option maxHeartbeats 4000000 in
set_option maxRecDepth 100000 in
theorem b_X5_hasParts_12_g {p : Program} {l : Launch} {e : Env} {s : State} {m : MethodId} {args : Array Value} {below : List Frame} {meth : Method} {c : Code} {D : va_G} {T : Nat → ClassId} {b : Nat} (hC : CX p s m args meth c cX5_hasParts 6 RX5 (some .boolean) D T) (a0 : Nat) (x1 : Int32) (x2 : Int32) (x3 : Int32) (h0 : kd a0 = 5) (kx : Int32 → Me → Option (Int32 × Me)) (hkx : ∀ (x3 : Int32) (M : Me), GN p l e (k2_rm 1 21) s m args below meth c D T b 6 eI 124 [] [] M (kx x3 M)) (kb : Int32 × Me → Option (Int32 × Me)) (hkb : ∀ z : Int32 × Me, GN p l e (k2_rm 1 21) s m args below meth c D T b 6 eI 12 [(0, .ref (b + a0)), (1, .int x1), (2, .int x2), (3, .int z.1)] [] z.2 (kb z)) (M : Me) : GN p l e (k2_rm 1 21) s m args below meth c D T b 6 eI 12 [(0, .ref (b + a0)), (1, .int x1), (2, .int x2), (3, .int x3)] [] M (g_X5_hasParts_12 kx kb a0 x1 x2 x3 M) := by
  unfold g_X5_hasParts_12
  refine n_iload_n hC 3 rfl dX5_hasParts_12 ?_
  refine n_iload_n hC 2 rfl dX5_hasParts_13 ?_
  refine n_icmp_ge hC 124 dX5_hasParts_14 (by decide) ?_ ?_
  · exact GN.sub [] rfl (hkx x3 M)
  refine n_iload_n hC 3 rfl dX5_hasParts_17 ?_
  refine n_iconst hC (4 : Int32) (by decide) dX5_hasParts_18 ?_
  refine n_iadd hC dX5_hasParts_19 ?_
  refine n_iload_n hC 2 rfl dX5_hasParts_20 ?_
  refine n_icmp_le hC 26 dX5_hasParts_21 (by decide) ?_ ?_
  · refine n_aload_n hC 0 rfl dX5_hasParts_26 ?_
    refine n_iload_n hC 3 rfl dX5_hasParts_27 ?_
    refine n_callVi (As := [.int x3]) (rest := []) h0 rfl (by decide) hC (c_X5_two l M a0 x3 h0) my_X5_two ml_X5_193 rfl rfl rfl (Nat.le_of_ble_eq_true rfl) ⟨by decide, by decide⟩ dX5_hasParts_28 (fun r3 M4 => ?_)
    refine n_istore hC [(4, .int r3), (0, .ref (b + a0)), (1, .int x1), (2, .int x2), (3, .int x3)] (by decide) rfl dX5_hasParts_31 ?_
    refine n_aload_n hC 1 rfl dX5_hasParts_33 ?_
    refine n_iload_n hC 4 rfl dX5_hasParts_34 ?_
    refine n_iconst hC (2 : Int32) (by decide) dX5_hasParts_35 ?_
    refine n_iadd hC dX5_hasParts_36 ?_
    refine n_callVi (As := [.int (x3 + (2 : Int32))]) (rest := []) h0 rfl (by decide) hC (c_X5_two l M4 a0 (x3 + (2 : Int32)) h0) my_X5_two ml_X5_193 rfl rfl rfl (Nat.le_of_ble_eq_true rfl) ⟨by decide, by decide⟩ dX5_hasParts_37 (fun r5 M6 => ?_)
    refine n_istore hC [(5, .int r5), (4, .int r3), (0, .ref (b + a0)), (1, .int x1), (2, .int x2), (3, .int x3)] (by decide) rfl dX5_hasParts_40 ?_
    refine n_iload_n hC 5 rfl dX5_hasParts_42 ?_
    refine n_iconst hC (4 : Int32) (by decide) dX5_hasParts_43 ?_
    refine n_iadd hC dX5_hasParts_44 ?_
    refine n_iload hC 0 rfl dX5_hasParts_45 ?_
    refine n_iadd hC dX5_hasParts_47 ?_
    refine n_iload_n hC 4 rfl dX5_hasParts_48 ?_
    refine n_icmp_gt hC 57 dX5_hasParts_49 (by decide) ?_ ?_
    · refine n_iconst hC (0 : Int32) (by decide) dX5_hasParts_57 ?_
      exact n_zret hC dX5_hasParts_58
    refine n_iload hC 1 rfl dX5_hasParts_52 ?_
    refine n_if_ne hC 59 dX5_hasParts_54 (by decide) ?_ ?_
    · refine n_iload hC 1 rfl dX5_hasParts_59 ?_
      refine n_iconst hC (1 : Int32) (by decide) dX5_hasParts_61 ?_
      refine n_icmp_ne hC 87 dX5_hasParts_62 (by decide) ?_ ?_
      · refine n_aload_n hC 2 rfl dX5_hasParts_87 ?_
        refine n_dup hC rfl dX5_hasParts_88 ?_
        refine n_get hC clX5 h0 38 (.int (M6.1 a0 38)) (by decide) rfl fl_X5_219 rfl dX5_hasParts_89 ?_
        refine n_iconst hC (1 : Int32) (by decide) dX5_hasParts_92 ?_
        refine n_iadd hC dX5_hasParts_93 ?_
        refine n_putI hC clX5 h0 38 (by decide) rfl rfl rfl fl_X5_219 dX5_hasParts_94 (fun M7 => ?_)
        refine n_iload hC 0 rfl dX5_hasParts_97 ?_
        refine n_bipush hC (8 : Int32) (by decide) dX5_hasParts_99 ?_
        refine n_icmp_gt hC 112 dX5_hasParts_101 (by decide) ?_ ?_
        · refine n_iconst hC (0 : Int32) (by decide) dX5_hasParts_112 ?_
          exact n_zret hC dX5_hasParts_113
        refine n_aload_n hC 2 rfl dX5_hasParts_104 ?_
        refine n_get hC clX5 h0 38 (.int (M7.1 a0 38)) (by decide) rfl fl_X5_219 rfl dX5_hasParts_105 ?_
        refine n_iconst hC (3 : Int32) (by decide) dX5_hasParts_108 ?_
        refine n_icmp_le hC 114 dX5_hasParts_109 (by decide) ?_ ?_
        · exact GN.sub [2, 3, 4, 5, 0] rfl (b_X5_hasParts_114 hC a0 x1 x2 x3 r5 h0 kx hkx kb hkb M7)
        refine n_iconst hC (0 : Int32) (by decide) dX5_hasParts_112 ?_
        exact n_zret hC dX5_hasParts_113
      refine n_iload_n hC 5 rfl dX5_hasParts_65 ?_
      refine n_iload_n hC 3 rfl dX5_hasParts_66 ?_
      refine n_icmp_gt hC 77 dX5_hasParts_67 (by decide) ?_ ?_
      · refine n_iconst hC (0 : Int32) (by decide) dX5_hasParts_77 ?_
        exact n_zret hC dX5_hasParts_78
      refine n_iload hC 0 rfl dX5_hasParts_70 ?_
      refine n_bipush hC (16 : Int32) (by decide) dX5_hasParts_72 ?_
      refine n_icmp_eq hC 79 dX5_hasParts_74 (by decide) ?_ ?_
      · refine n_aload_n hC 2 rfl dX5_hasParts_79 ?_
        refine n_iconst hC (1 : Int32) (by decide) dX5_hasParts_80 ?_
        refine n_putZ hC clX5 h0 37 (by decide) rfl rfl rfl fl_X5_222 dX5_hasParts_81 (fun M9 => ?_)
        refine n_goto hC (tgt := 114) (by decide) dX5_hasParts_84 ?_
        exact GN.sub [2, 3, 4, 5, 0] rfl (b_X5_hasParts_114 hC a0 x1 x2 x3 r5 h0 kx hkx kb hkb M9)
      refine n_iconst hC (0 : Int32) (by decide) dX5_hasParts_77 ?_
      exact n_zret hC dX5_hasParts_78
    refine n_iconst hC (0 : Int32) (by decide) dX5_hasParts_57 ?_
    exact n_zret hC dX5_hasParts_58
  refine n_iconst hC (0 : Int32) (by decide) dX5_hasParts_24 ?_
  exact n_zret hC dX5_hasParts_25
def l_X5_hasParts_12 (kx : Int32 → Me → Option (Int32 × Me)) (a0 : Nat) (x1 : Int32) (x2 : Int32) (x3 : Int32) (M : Me) : Option (Int32 × Me) := lp (fun kb z => g_X5_hasParts_12 kx kb a0 x1 x2 z.1 z.2) FU (x3, M)
set_option maxHeartbeats 4000000 in
set_option maxRecDepth 100000 in
theorem b_X5_hasParts_12 {p : Program} {l : Launch} {e : Env} {s : State} {m : MethodId} {args : Array Value} {below : List Frame} {meth : Method} {c : Code} {D : va_G} {T : Nat → ClassId} {b : Nat} (hC : CX p s m args meth c cX5_hasParts 6 RX5 (some .boolean) D T) (a0 : Nat) (x1 : Int32) (x2 : Int32) (x3 : Int32) (h0 : kd a0 = 5) (kx : Int32 → Me → Option (Int32 × Me)) (hkx : ∀ (x3 : Int32) (M : Me), GN p l e (k2_rm 1 21) s m args below meth c D T b 6 eI 124 [] [] M (kx x3 M)) (M : Me) : GN p l e (k2_rm 1 21) s m args below meth c D T b 6 eI 12 [(0, .ref (b + a0)), (1, .int x1), (2, .int x2), (3, .int x3)] [] M (l_X5_hasParts_12 kx a0 x1 x2 x3 M) := by
  exact n_loop (σ := Int32 × Me) (fun z => [(0, .ref (b + a0)), (1, .int x1), (2, .int x2), (3, .int z.1)]) (fun z => z.2) (fun kb hkb z => b_X5_hasParts_12_g hC a0 x1 x2 z.1 h0 kx hkx kb hkb z.2) FU (x3, M)
def f_X5_hasParts (M : Me) (a0 : Nat) (x1 : Int32) (x2 : Int32) : Option (Int32 × Me) := bnd (sI M a0 38 (0 : Int32)) (fun M1 => chZ (0 : Int32) (bnd (sI M1 a0 37 (0 : Int32)) (fun M2 => l_X5_hasParts_12 (fun v10 M11 => chZ (1 : Int32) (some ((1 : Int32), M11))) a0 x1 x2 x1 M2)))
set_option maxHeartbeats 4000000 in
set_option maxRecDepth 100000 in
theorem c_X5_hasParts (l : Launch) (M : Me) (a0 : Nat) (x1 : Int32) (x2 : Int32) (h0 : kd a0 = 5) : CN l yX5_hasParts cX5_hasParts 6 (some .boolean) (k2_rm 1 21) eI (fun b => [.ref (b + a0), .int x1, .int x2]) M (f_X5_hasParts M a0 x1 x2) := by
  refine CN.of RX5 (fun b => [(0, .ref (b + a0)), (1, .int x1), (2, .int x2)]) (by decide) rfl (fun b => Nat.le_of_ble_eq_true rfl) (fun b => rfl) ?_
  intro p e s m args below meth c D T b hC
  unfold f_X5_hasParts
  refine n_iload_n hC 1 rfl dX5_hasParts_0 ?_
  refine n_istore_n hC rfl [(3, .int x1), (0, .ref (b + a0)), (1, .int x1), (2, .int x2)] (by decide) rfl dX5_hasParts_1 ?_
  refine n_aload_n hC 1 rfl dX5_hasParts_2 ?_
  refine n_iconst hC (0 : Int32) (by decide) dX5_hasParts_3 ?_
  refine n_putI hC clX5 h0 38 (by decide) rfl rfl rfl fl_X5_219 dX5_hasParts_4 (fun M1 => ?_)
  refine n_aload_n hC 1 rfl dX5_hasParts_7 ?_
  refine n_iconst hC (0 : Int32) (by decide) dX5_hasParts_8 ?_
  refine n_putZ hC clX5 h0 37 (by decide) rfl rfl rfl fl_X5_222 dX5_hasParts_9 (fun M2 => ?_)
  refine GN.sub [1, 2, 3, 0] rfl (b_X5_hasParts_12 hC a0 x1 x2 x1 h0 _ (fun v10 M11 => ?_) M2)
  refine n_iconst hC (1 : Int32) (by decide) dX5_hasParts_124 ?_
  exact n_zret hC dX5_hasParts_125
def j_X5_isSafe_166 (kx : Int32 → Int32 → Int32 → Me → Option (Int32 × Me)) (kb : Int32 × Int32 × Int32 × Me → Option (Int32 × Me)) (a0 : Nat) (x1 : Int32) (x2 : Int32) (x3 : Int32) (s0 : Int32) (M : Me) : Option (Int32 × Me) := bndV (x3 + (1 : Int32)) (fun v5 => kb (s0, x2, v5, M))
set_option maxHeartbeats 4000000 in
set_option maxRecDepth 100000 in
theorem b_X5_isSafe_166 {p : Program} {l : Launch} {e : Env} {s : State} {m : MethodId} {args : Array Value} {below : List Frame} {meth : Method} {c : Code} {D : va_G} {T : Nat → ClassId} {b : Nat} (hC : CX p s m args meth c cX5_isSafe 6 RX5 (some .boolean) D T) (a0 : Nat) (x1 : Int32) (x2 : Int32) (x3 : Int32) (s0 : Int32) (h0 : kd a0 = 5) (kx : Int32 → Int32 → Int32 → Me → Option (Int32 × Me)) (hkx : ∀ (x1 : Int32) (x2 : Int32) (x3 : Int32) (M : Me), GN p l e (k2_rm 0 0) s m args below meth c D T b 6 eI 173 [(1, .int x1)] [] M (kx x1 x2 x3 M)) (kb : Int32 × Int32 × Int32 × Me → Option (Int32 × Me)) (hkb : ∀ z : Int32 × Int32 × Int32 × Me, GN p l e (k2_rm 0 0) s m args below meth c D T b 6 eI 30 [(0, .ref (b + a0)), (1, .int z.1), (2, .int z.2.1), (3, .int z.2.2.1)] [] z.2.2.2 (kb z)) (M : Me) : GN p l e (k2_rm 0 0) s m args below meth c D T b 6 eI 166 [(0, .ref (b + a0)), (1, .int x1), (2, .int x2), (3, .int x3)] [.int s0] M (j_X5_isSafe_166 kx kb a0 x1 x2 x3 s0 M) := by
  unfold j_X5_isSafe_166
  refine n_istore_n hC rfl [(1, .int s0), (0, .ref (b + a0)), (2, .int x2), (3, .int x3)] (by decide) rfl dX5_isSafe_166 ?_
  refine n_iincB hC (1 : Int32) (by decide) (fun v5 => [(3, .int v5), (1, .int s0), (0, .ref (b + a0)), (2, .int x2)]) 3 rfl (by decide) (fun _ => rfl) dX5_isSafe_167 (fun v5 => ?_)
  refine n_goto hC (tgt := 30) (by decide) dX5_isSafe_170 ?_
  exact GN.sub [2, 1, 3, 0] rfl (hkb (s0, x2, v5, M))
def j_X5_isSafe_165 (kx : Int32 → Int32 → Int32 → Me → Option (Int32 × Me)) (kb : Int32 × Int32 × Int32 × Me → Option (Int32 × Me)) (a0 : Nat) (x1 : Int32) (x2 : Int32) (x3 : Int32) (M : Me) : Option (Int32 × Me) := j_X5_isSafe_166 kx kb a0 x1 x2 x3 (0 : Int32) M
set_option maxHeartbeats 4000000 in
set_option maxRecDepth 100000 in
theorem b_X5_isSafe_165 {p : Program} {l : Launch} {e : Env} {s : State} {m : MethodId} {args : Array Value} {below : List Frame} {meth : Method} {c : Code} {D : va_G} {T : Nat → ClassId} {b : Nat} (hC : CX p s m args meth c cX5_isSafe 6 RX5 (some .boolean) D T) (a0 : Nat) (x1 : Int32) (x2 : Int32) (x3 : Int32) (h0 : kd a0 = 5) (kx : Int32 → Int32 → Int32 → Me → Option (Int32 × Me)) (hkx : ∀ (x1 : Int32) (x2 : Int32) (x3 : Int32) (M : Me), GN p l e (k2_rm 0 0) s m args below meth c D T b 6 eI 173 [(1, .int x1)] [] M (kx x1 x2 x3 M)) (kb : Int32 × Int32 × Int32 × Me → Option (Int32 × Me)) (hkb : ∀ z : Int32 × Int32 × Int32 × Me, GN p l e (k2_rm 0 0) s m args below meth c D T b 6 eI 30 [(0, .ref (b + a0)), (1, .int z.1), (2, .int z.2.1), (3, .int z.2.2.1)] [] z.2.2.2 (kb z)) (M : Me) : GN p l e (k2_rm 0 0) s m args below meth c D T b 6 eI 165 [(0, .ref (b + a0)), (1, .int x1), (2, .int x2), (3, .int x3)] [] M (j_X5_isSafe_165 kx kb a0 x1 x2 x3 M) := by
  unfold j_X5_isSafe_165
  refine n_iconst hC (0 : Int32) (by decide) dX5_isSafe_165 ?_
  exact GN.sub [0, 1, 2, 3] rfl (b_X5_isSafe_166 hC a0 x1 x2 x3 (0 : Int32) h0 kx hkx kb hkb M)
def j_X5_isSafe_161 (kx : Int32 → Int32 → Int32 → Me → Option (Int32 × Me)) (kb : Int32 × Int32 × Int32 × Me → Option (Int32 × Me)) (a0 : Nat) (x1 : Int32) (x2 : Int32) (x3 : Int32) (M : Me) : Option (Int32 × Me) := j_X5_isSafe_166 kx kb a0 x1 x2 x3 (1 : Int32) M
set_option maxHeartbeats 4000000 in
set_option maxRecDepth 100000 in
theorem b_X5_isSafe_161 {p : Program} {l : Launch} {e : Env} {s : State} {m : MethodId} {args : Array Value} {below : List Frame} {meth : Method} {c : Code} {D : va_G} {T : Nat → ClassId} {b : Nat} (hC : CX p s m args meth c cX5_isSafe 6 RX5 (some .boolean) D T) (a0 : Nat) (x1 : Int32) (x2 : Int32) (x3 : Int32) (h0 : kd a0 = 5) (kx : Int32 → Int32 → Int32 → Me → Option (Int32 × Me)) (hkx : ∀ (x1 : Int32) (x2 : Int32) (x3 : Int32) (M : Me), GN p l e (k2_rm 0 0) s m args below meth c D T b 6 eI 173 [(1, .int x1)] [] M (kx x1 x2 x3 M)) (kb : Int32 × Int32 × Int32 × Me → Option (Int32 × Me)) (hkb : ∀ z : Int32 × Int32 × Int32 × Me, GN p l e (k2_rm 0 0) s m args below meth c D T b 6 eI 30 [(0, .ref (b + a0)), (1, .int z.1), (2, .int z.2.1), (3, .int z.2.2.1)] [] z.2.2.2 (kb z)) (M : Me) : GN p l e (k2_rm 0 0) s m args below meth c D T b 6 eI 161 [(0, .ref (b + a0)), (1, .int x1), (2, .int x2), (3, .int x3)] [] M (j_X5_isSafe_161 kx kb a0 x1 x2 x3 M) := by
  unfold j_X5_isSafe_161
  refine n_iconst hC (1 : Int32) (by decide) dX5_isSafe_161 ?_
  refine n_goto hC (tgt := 166) (by decide) dX5_isSafe_162 ?_
  exact GN.sub [0, 1, 2, 3] rfl (b_X5_isSafe_166 hC a0 x1 x2 x3 (1 : Int32) h0 kx hkx kb hkb M)
def j_X5_isSafe_141 (kx : Int32 → Int32 → Int32 → Me → Option (Int32 × Me)) (kb : Int32 × Int32 × Int32 × Me → Option (Int32 × Me)) (a0 : Nat) (x1 : Int32) (x2 : Int32) (x3 : Int32) (x4 : Int32) (M : Me) : Option (Int32 × Me) := if x1 = (0 : Int32) then j_X5_isSafe_165 kx kb a0 x1 x2 x3 M else if x4 = (0 : Int32) then chk x3 (ln (rf a0 23)) (if (M.1 (rf a0 23) x3.toNatClampNeg) = (92 : Int32) then j_X5_isSafe_165 kx kb a0 x1 x2 x3 M else j_X5_isSafe_161 kx kb a0 x1 x2 x3 M) else j_X5_isSafe_161 kx kb a0 x1 x2 x3 M
set_option maxHeartbeats 4000000 in
set_option maxRecDepth 100000 in
theorem b_X5_isSafe_141 {p : Program} {l : Launch} {e : Env} {s : State} {m : MethodId} {args : Array Value} {below : List Frame} {meth : Method} {c : Code} {D : va_G} {T : Nat → ClassId} {b : Nat} (hC : CX p s m args meth c cX5_isSafe 6 RX5 (some .boolean) D T) (a0 : Nat) (x1 : Int32) (x2 : Int32) (x3 : Int32) (x4 : Int32) (h0 : kd a0 = 5) (kx : Int32 → Int32 → Int32 → Me → Option (Int32 × Me)) (hkx : ∀ (x1 : Int32) (x2 : Int32) (x3 : Int32) (M : Me), GN p l e (k2_rm 0 0) s m args below meth c D T b 6 eI 173 [(1, .int x1)] [] M (kx x1 x2 x3 M)) (kb : Int32 × Int32 × Int32 × Me → Option (Int32 × Me)) (hkb : ∀ z : Int32 × Int32 × Int32 × Me, GN p l e (k2_rm 0 0) s m args below meth c D T b 6 eI 30 [(0, .ref (b + a0)), (1, .int z.1), (2, .int z.2.1), (3, .int z.2.2.1)] [] z.2.2.2 (kb z)) (M : Me) : GN p l e (k2_rm 0 0) s m args below meth c D T b 6 eI 141 [(0, .ref (b + a0)), (1, .int x1), (2, .int x2), (3, .int x3), (4, .int x4)] [] M (j_X5_isSafe_141 kx kb a0 x1 x2 x3 x4 M) := by
  unfold j_X5_isSafe_141
  refine n_iload_n hC 1 rfl dX5_isSafe_141 ?_
  refine n_if_eq hC 165 dX5_isSafe_142 (by decide) ?_ ?_
  · exact GN.sub [0, 1, 2, 3] rfl (b_X5_isSafe_165 hC a0 x1 x2 x3 h0 kx hkx kb hkb M)
  refine n_iload hC 4 rfl dX5_isSafe_145 ?_
  refine n_if_ne hC 161 dX5_isSafe_147 (by decide) ?_ ?_
  · exact GN.sub [0, 1, 2, 3] rfl (b_X5_isSafe_161 hC a0 x1 x2 x3 h0 kx hkx kb hkb M)
  refine n_aload_n hC 0 rfl dX5_isSafe_150 ?_
  refine n_get hC clX5 h0 23 (.ref (b + (rf a0 23))) (by decide) rfl fl_X5_128 rfl dX5_isSafe_151 ?_
  refine n_iload_n hC 3 rfl dX5_isSafe_154 ?_
  refine n_iald hC (kf_X5_23 h0) dX5_isSafe_155 (fun g6 => ?_)
  refine n_bipush hC (92 : Int32) (by decide) dX5_isSafe_156 ?_
  refine n_icmp_eq hC 165 dX5_isSafe_158 (by decide) ?_ ?_
  · exact GN.sub [0, 1, 2, 3] rfl (b_X5_isSafe_165 hC a0 x1 x2 x3 h0 kx hkx kb hkb M)
  exact GN.sub [0, 1, 2, 3] rfl (b_X5_isSafe_161 hC a0 x1 x2 x3 h0 kx hkx kb hkb M)
def j_X5_isSafe_136 (kx : Int32 → Int32 → Int32 → Me → Option (Int32 × Me)) (kb : Int32 × Int32 × Int32 × Me → Option (Int32 × Me)) (a0 : Nat) (x1 : Int32) (x2 : Int32) (x3 : Int32) (x4 : Int32) (s0 : Int32) (M : Me) : Option (Int32 × Me) := bndV (x3 + (1 : Int32)) (fun v8 => j_X5_isSafe_141 kx kb a0 s0 v8 x3 x4 M)
set_option maxHeartbeats 4000000 in
set_option maxRecDepth 100000 in
theorem b_X5_isSafe_136 {p : Program} {l : Launch} {e : Env} {s : State} {m : MethodId} {args : Array Value} {below : List Frame} {meth : Method} {c : Code} {D : va_G} {T : Nat → ClassId} {b : Nat} (hC : CX p s m args meth c cX5_isSafe 6 RX5 (some .boolean) D T) (a0 : Nat) (x1 : Int32) (x2 : Int32) (x3 : Int32) (x4 : Int32) (s0 : Int32) (h0 : kd a0 = 5) (kx : Int32 → Int32 → Int32 → Me → Option (Int32 × Me)) (hkx : ∀ (x1 : Int32) (x2 : Int32) (x3 : Int32) (M : Me), GN p l e (k2_rm 0 0) s m args below meth c D T b 6 eI 173 [(1, .int x1)] [] M (kx x1 x2 x3 M)) (kb : Int32 × Int32 × Int32 × Me → Option (Int32 × Me)) (hkb : ∀ z : Int32 × Int32 × Int32 × Me, GN p l e (k2_rm 0 0) s m args below meth c D T b 6 eI 30 [(0, .ref (b + a0)), (1, .int z.1), (2, .int z.2.1), (3, .int z.2.2.1)] [] z.2.2.2 (kb z)) (M : Me) : GN p l e (k2_rm 0 0) s m args below meth c D T b 6 eI 136 [(0, .ref (b + a0)), (1, .int x1), (2, .int x2), (3, .int x3), (4, .int x4)] [.int s0] M (j_X5_isSafe_136 kx kb a0 x1 x2 x3 x4 s0 M) := by
  unfold j_X5_isSafe_136
  refine n_istore_n hC rfl [(1, .int s0), (0, .ref (b + a0)), (2, .int x2), (3, .int x3), (4, .int x4)] (by decide) rfl dX5_isSafe_136 ?_
  refine n_iload_n hC 3 rfl dX5_isSafe_137 ?_
  refine n_iconst hC (1 : Int32) (by decide) dX5_isSafe_138 ?_
  refine n_iadd hC dX5_isSafe_139 ?_
  refine n_istB_n hC rfl (fun v8 => [(2, .int v8), (1, .int s0), (0, .ref (b + a0)), (3, .int x3), (4, .int x4)]) (by decide) (fun _ => rfl) dX5_isSafe_140 (fun v8 => ?_)
  exact GN.sub [2, 1, 0, 3, 4] rfl (b_X5_isSafe_141 hC a0 s0 v8 x3 x4 h0 kx hkx kb hkb M)
def j_X5_isSafe_135 (kx : Int32 → Int32 → Int32 → Me → Option (Int32 × Me)) (kb : Int32 × Int32 × Int32 × Me → Option (Int32 × Me)) (a0 : Nat) (x1 : Int32) (x2 : Int32) (x3 : Int32) (x4 : Int32) (M : Me) : Option (Int32 × Me) := j_X5_isSafe_136 kx kb a0 x1 x2 x3 x4 (0 : Int32) M
set_option maxHeartbeats 4000000 in
set_option maxRecDepth 100000 in
theorem b_X5_isSafe_135 {p : Program} {l : Launch} {e : Env} {s : State} {m : MethodId} {args : Array Value} {below : List Frame} {meth : Method} {c : Code} {D : va_G} {T : Nat → ClassId} {b : Nat} (hC : CX p s m args meth c cX5_isSafe 6 RX5 (some .boolean) D T) (a0 : Nat) (x1 : Int32) (x2 : Int32) (x3 : Int32) (x4 : Int32) (h0 : kd a0 = 5) (kx : Int32 → Int32 → Int32 → Me → Option (Int32 × Me)) (hkx : ∀ (x1 : Int32) (x2 : Int32) (x3 : Int32) (M : Me), GN p l e (k2_rm 0 0) s m args below meth c D T b 6 eI 173 [(1, .int x1)] [] M (kx x1 x2 x3 M)) (kb : Int32 × Int32 × Int32 × Me → Option (Int32 × Me)) (hkb : ∀ z : Int32 × Int32 × Int32 × Me, GN p l e (k2_rm 0 0) s m args below meth c D T b 6 eI 30 [(0, .ref (b + a0)), (1, .int z.1), (2, .int z.2.1), (3, .int z.2.2.1)] [] z.2.2.2 (kb z)) (M : Me) : GN p l e (k2_rm 0 0) s m args below meth c D T b 6 eI 135 [(0, .ref (b + a0)), (1, .int x1), (2, .int x2), (3, .int x3), (4, .int x4)] [] M (j_X5_isSafe_135 kx kb a0 x1 x2 x3 x4 M) := by
  unfold j_X5_isSafe_135
  refine n_iconst hC (0 : Int32) (by decide) dX5_isSafe_135 ?_
  exact GN.sub [0, 1, 2, 3, 4] rfl (b_X5_isSafe_136 hC a0 x1 x2 x3 x4 (0 : Int32) h0 kx hkx kb hkb M)
def j_X5_isSafe_131 (kx : Int32 → Int32 → Int32 → Me → Option (Int32 × Me)) (kb : Int32 × Int32 × Int32 × Me → Option (Int32 × Me)) (a0 : Nat) (x1 : Int32) (x2 : Int32) (x3 : Int32) (x4 : Int32) (M : Me) : Option (Int32 × Me) := j_X5_isSafe_136 kx kb a0 x1 x2 x3 x4 (1 : Int32) M
set_option maxHeartbeats 4000000 in
set_option maxRecDepth 100000 in
theorem b_X5_isSafe_131 {p : Program} {l : Launch} {e : Env} {s : State} {m : MethodId} {args : Array Value} {below : List Frame} {meth : Method} {c : Code} {D : va_G} {T : Nat → ClassId} {b : Nat} (hC : CX p s m args meth c cX5_isSafe 6 RX5 (some .boolean) D T) (a0 : Nat) (x1 : Int32) (x2 : Int32) (x3 : Int32) (x4 : Int32) (h0 : kd a0 = 5) (kx : Int32 → Int32 → Int32 → Me → Option (Int32 × Me)) (hkx : ∀ (x1 : Int32) (x2 : Int32) (x3 : Int32) (M : Me), GN p l e (k2_rm 0 0) s m args below meth c D T b 6 eI 173 [(1, .int x1)] [] M (kx x1 x2 x3 M)) (kb : Int32 × Int32 × Int32 × Me → Option (Int32 × Me)) (hkb : ∀ z : Int32 × Int32 × Int32 × Me, GN p l e (k2_rm 0 0) s m args below meth c D T b 6 eI 30 [(0, .ref (b + a0)), (1, .int z.1), (2, .int z.2.1), (3, .int z.2.2.1)] [] z.2.2.2 (kb z)) (M : Me) : GN p l e (k2_rm 0 0) s m args below meth c D T b 6 eI 131 [(0, .ref (b + a0)), (1, .int x1), (2, .int x2), (3, .int x3), (4, .int x4)] [] M (j_X5_isSafe_131 kx kb a0 x1 x2 x3 x4 M) := by
  unfold j_X5_isSafe_131
  refine n_iconst hC (1 : Int32) (by decide) dX5_isSafe_131 ?_
  refine n_goto hC (tgt := 136) (by decide) dX5_isSafe_132 ?_
  exact GN.sub [0, 1, 2, 3, 4] rfl (b_X5_isSafe_136 hC a0 x1 x2 x3 x4 (1 : Int32) h0 kx hkx kb hkb M)
def j_X5_isSafe_87 (kx : Int32 → Int32 → Int32 → Me → Option (Int32 × Me)) (kb : Int32 × Int32 × Int32 × Me → Option (Int32 × Me)) (a0 : Nat) (x1 : Int32) (x2 : Int32) (x3 : Int32) (x4 : Int32) (M : Me) : Option (Int32 × Me) := bndV (x3 - x2) (fun v7 => if x1 = (0 : Int32) then j_X5_isSafe_135 kx kb a0 x1 x2 x3 x4 M else if v7 ≤ (0 : Int32) then j_X5_isSafe_135 kx kb a0 x1 x2 x3 x4 M else if v7 = (2 : Int32) then chk x2 (ln (rf a0 23)) (if (M.1 (rf a0 23) x2.toNatClampNeg) = (46 : Int32) then chk (x2 + (1 : Int32)) (ln (rf a0 23)) (if (M.1 (rf a0 23) (x2 + (1 : Int32)).toNatClampNeg) = (46 : Int32) then j_X5_isSafe_135 kx kb a0 x1 x2 x3 x4 M else j_X5_isSafe_131 kx kb a0 x1 x2 x3 x4 M) else j_X5_isSafe_131 kx kb a0 x1 x2 x3 x4 M) else j_X5_isSafe_131 kx kb a0 x1 x2 x3 x4 M)
set_option maxHeartbeats 4000000 in
set_option maxRecDepth 100000 in
theorem b_X5_isSafe_87 {p : Program} {l : Launch} {e : Env} {s : State} {m : MethodId} {args : Array Value} {below : List Frame} {meth : Method} {c : Code} {D : va_G} {T : Nat → ClassId} {b : Nat} (hC : CX p s m args meth c cX5_isSafe 6 RX5 (some .boolean) D T) (a0 : Nat) (x1 : Int32) (x2 : Int32) (x3 : Int32) (x4 : Int32) (h0 : kd a0 = 5) (kx : Int32 → Int32 → Int32 → Me → Option (Int32 × Me)) (hkx : ∀ (x1 : Int32) (x2 : Int32) (x3 : Int32) (M : Me), GN p l e (k2_rm 0 0) s m args below meth c D T b 6 eI 173 [(1, .int x1)] [] M (kx x1 x2 x3 M)) (kb : Int32 × Int32 × Int32 × Me → Option (Int32 × Me)) (hkb : ∀ z : Int32 × Int32 × Int32 × Me, GN p l e (k2_rm 0 0) s m args below meth c D T b 6 eI 30 [(0, .ref (b + a0)), (1, .int z.1), (2, .int z.2.1), (3, .int z.2.2.1)] [] z.2.2.2 (kb z)) (M : Me) : GN p l e (k2_rm 0 0) s m args below meth c D T b 6 eI 87 [(0, .ref (b + a0)), (1, .int x1), (2, .int x2), (3, .int x3), (4, .int x4)] [] M (j_X5_isSafe_87 kx kb a0 x1 x2 x3 x4 M) := by
  unfold j_X5_isSafe_87
  refine n_iload_n hC 3 rfl dX5_isSafe_87 ?_
  refine n_iload_n hC 2 rfl dX5_isSafe_88 ?_
  refine n_isub hC dX5_isSafe_89 ?_
  refine n_istB hC (fun v7 => [(5, .int v7), (0, .ref (b + a0)), (1, .int x1), (2, .int x2), (3, .int x3), (4, .int x4)]) (by decide) (fun _ => rfl) dX5_isSafe_90 (fun v7 => ?_)
  refine n_iload_n hC 2 rfl dX5_isSafe_92 ?_
  refine n_if_eq hC 135 dX5_isSafe_93 (by decide) ?_ ?_
  · exact GN.sub [1, 2, 3, 4, 5] rfl (b_X5_isSafe_135 hC a0 x1 x2 x3 x4 h0 kx hkx kb hkb M)
  refine n_iload hC 0 rfl dX5_isSafe_96 ?_
  refine n_if_le hC 135 dX5_isSafe_98 (by decide) ?_ ?_
  · exact GN.sub [1, 2, 3, 4, 5] rfl (b_X5_isSafe_135 hC a0 x1 x2 x3 x4 h0 kx hkx kb hkb M)
  refine n_iload hC 0 rfl dX5_isSafe_101 ?_
  refine n_iconst hC (2 : Int32) (by decide) dX5_isSafe_103 ?_
  refine n_icmp_ne hC 131 dX5_isSafe_104 (by decide) ?_ ?_
  · exact GN.sub [1, 2, 3, 4, 5] rfl (b_X5_isSafe_131 hC a0 x1 x2 x3 x4 h0 kx hkx kb hkb M)
  refine n_aload_n hC 1 rfl dX5_isSafe_107 ?_
  refine n_get hC clX5 h0 23 (.ref (b + (rf a0 23))) (by decide) rfl fl_X5_128 rfl dX5_isSafe_108 ?_
  refine n_iload_n hC 3 rfl dX5_isSafe_111 ?_
  refine n_iald hC (kf_X5_23 h0) dX5_isSafe_112 (fun g9 => ?_)
  refine n_bipush hC (46 : Int32) (by decide) dX5_isSafe_113 ?_
  refine n_icmp_ne hC 131 dX5_isSafe_115 (by decide) ?_ ?_
  · exact GN.sub [1, 2, 3, 4, 5] rfl (b_X5_isSafe_131 hC a0 x1 x2 x3 x4 h0 kx hkx kb hkb M)
  refine n_aload_n hC 1 rfl dX5_isSafe_118 ?_
  refine n_get hC clX5 h0 23 (.ref (b + (rf a0 23))) (by decide) rfl fl_X5_128 rfl dX5_isSafe_119 ?_
  refine n_iload_n hC 3 rfl dX5_isSafe_122 ?_
  refine n_iconst hC (1 : Int32) (by decide) dX5_isSafe_123 ?_
  refine n_iadd hC dX5_isSafe_124 ?_
  refine n_iald hC (kf_X5_23 h0) dX5_isSafe_125 (fun g10 => ?_)
  refine n_bipush hC (46 : Int32) (by decide) dX5_isSafe_126 ?_
  refine n_icmp_eq hC 135 dX5_isSafe_128 (by decide) ?_ ?_
  · exact GN.sub [1, 2, 3, 4, 5] rfl (b_X5_isSafe_135 hC a0 x1 x2 x3 x4 h0 kx hkx kb hkb M)
  exact GN.sub [1, 2, 3, 4, 5] rfl (b_X5_isSafe_131 hC a0 x1 x2 x3 x4 h0 kx hkx kb hkb M)
def j_X5_isSafe_61 (kx : Int32 → Int32 → Int32 → Me → Option (Int32 × Me)) (kb : Int32 × Int32 × Int32 × Me → Option (Int32 × Me)) (a0 : Nat) (x1 : Int32) (x2 : Int32) (x3 : Int32) (s0 : Int32) (M : Me) : Option (Int32 × Me) := if s0 = (0 : Int32) then chk x3 (ln (rf a0 23)) (if (M.1 (rf a0 23) x3.toNatClampNeg) = (47 : Int32) then j_X5_isSafe_87 kx kb a0 x1 x2 x3 s0 M else j_X5_isSafe_141 kx kb a0 x1 x2 x3 s0 M) else if x3 ≤ x2 then j_X5_isSafe_141 kx kb a0 x1 x2 x3 s0 M else j_X5_isSafe_87 kx kb a0 x1 x2 x3 s0 M
set_option maxHeartbeats 4000000 in
set_option maxRecDepth 100000 in
theorem b_X5_isSafe_61 {p : Program} {l : Launch} {e : Env} {s : State} {m : MethodId} {args : Array Value} {below : List Frame} {meth : Method} {c : Code} {D : va_G} {T : Nat → ClassId} {b : Nat} (hC : CX p s m args meth c cX5_isSafe 6 RX5 (some .boolean) D T) (a0 : Nat) (x1 : Int32) (x2 : Int32) (x3 : Int32) (s0 : Int32) (h0 : kd a0 = 5) (kx : Int32 → Int32 → Int32 → Me → Option (Int32 × Me)) (hkx : ∀ (x1 : Int32) (x2 : Int32) (x3 : Int32) (M : Me), GN p l e (k2_rm 0 0) s m args below meth c D T b 6 eI 173 [(1, .int x1)] [] M (kx x1 x2 x3 M)) (kb : Int32 × Int32 × Int32 × Me → Option (Int32 × Me)) (hkb : ∀ z : Int32 × Int32 × Int32 × Me, GN p l e (k2_rm 0 0) s m args below meth c D T b 6 eI 30 [(0, .ref (b + a0)), (1, .int z.1), (2, .int z.2.1), (3, .int z.2.2.1)] [] z.2.2.2 (kb z)) (M : Me) : GN p l e (k2_rm 0 0) s m args below meth c D T b 6 eI 61 [(0, .ref (b + a0)), (1, .int x1), (2, .int x2), (3, .int x3)] [.int s0] M (j_X5_isSafe_61 kx kb a0 x1 x2 x3 s0 M) := by
  unfold j_X5_isSafe_61
  refine n_istore hC [(4, .int s0), (0, .ref (b + a0)), (1, .int x1), (2, .int x2), (3, .int x3)] (by decide) rfl dX5_isSafe_61 ?_
  refine n_iload hC 0 rfl dX5_isSafe_63 ?_
  refine n_if_eq hC 76 dX5_isSafe_65 (by decide) ?_ ?_
  · refine n_aload_n hC 1 rfl dX5_isSafe_76 ?_
    refine n_get hC clX5 h0 23 (.ref (b + (rf a0 23))) (by decide) rfl fl_X5_128 rfl dX5_isSafe_77 ?_
    refine n_iload_n hC 4 rfl dX5_isSafe_80 ?_
    refine n_iald hC (kf_X5_23 h0) dX5_isSafe_81 (fun g4 => ?_)
    refine n_bipush hC (47 : Int32) (by decide) dX5_isSafe_82 ?_
    refine n_icmp_ne hC 141 dX5_isSafe_84 (by decide) ?_ ?_
    · exact GN.sub [1, 2, 3, 4, 0] rfl (b_X5_isSafe_141 hC a0 x1 x2 x3 s0 h0 kx hkx kb hkb M)
    exact GN.sub [1, 2, 3, 4, 0] rfl (b_X5_isSafe_87 hC a0 x1 x2 x3 s0 h0 kx hkx kb hkb M)
  refine n_iload_n hC 3 rfl dX5_isSafe_68 ?_
  refine n_iload_n hC 4 rfl dX5_isSafe_69 ?_
  refine n_icmp_ge hC 141 dX5_isSafe_70 (by decide) ?_ ?_
  · exact GN.sub [1, 2, 3, 4, 0] rfl (b_X5_isSafe_141 hC a0 x1 x2 x3 s0 h0 kx hkx kb hkb M)
  refine n_goto hC (tgt := 87) (by decide) dX5_isSafe_73 ?_
  exact GN.sub [1, 2, 3, 4, 0] rfl (b_X5_isSafe_87 hC a0 x1 x2 x3 s0 h0 kx hkx kb hkb M)
def g_X5_isSafe_30 (kx : Int32 → Int32 → Int32 → Me → Option (Int32 × Me)) (kb : Int32 × Int32 × Int32 × Me → Option (Int32 × Me)) (a0 : Nat) (x1 : Int32) (x2 : Int32) (x3 : Int32) (M : Me) : Option (Int32 × Me) := if ((M.1 a0 34) + (M.1 a0 35)) < x3 then kx x1 x2 x3 M else if x3 = ((M.1 a0 34) + (M.1 a0 35)) then j_X5_isSafe_61 kx kb a0 x1 x2 x3 (1 : Int32) M else j_X5_isSafe_61 kx kb a0 x1 x2 x3 (0 : Int32) M
set_option maxHeartbeats 4000000 in
set_option maxRecDepth 100000 in
theorem b_X5_isSafe_30_g {p : Program} {l : Launch} {e : Env} {s : State} {m : MethodId} {args : Array Value} {below : List Frame} {meth : Method} {c : Code} {D : va_G} {T : Nat → ClassId} {b : Nat} (hC : CX p s m args meth c cX5_isSafe 6 RX5 (some .boolean) D T) (a0 : Nat) (x1 : Int32) (x2 : Int32) (x3 : Int32) (h0 : kd a0 = 5) (kx : Int32 → Int32 → Int32 → Me → Option (Int32 × Me)) (hkx : ∀ (x1 : Int32) (x2 : Int32) (x3 : Int32) (M : Me), GN p l e (k2_rm 0 0) s m args below meth c D T b 6 eI 173 [(1, .int x1)] [] M (kx x1 x2 x3 M)) (kb : Int32 × Int32 × Int32 × Me → Option (Int32 × Me)) (hkb : ∀ z : Int32 × Int32 × Int32 × Me, GN p l e (k2_rm 0 0) s m args below meth c D T b 6 eI 30 [(0, .ref (b + a0)), (1, .int z.1), (2, .int z.2.1), (3, .int z.2.2.1)] [] z.2.2.2 (kb z)) (M : Me) : GN p l e (k2_rm 0 0) s m args below meth c D T b 6 eI 30 [(0, .ref (b + a0)), (1, .int x1), (2, .int x2), (3, .int x3)] [] M (g_X5_isSafe_30 kx kb a0 x1 x2 x3 M) := by
  unfold g_X5_isSafe_30
  refine n_iload_n hC 3 rfl dX5_isSafe_30 ?_
  refine n_aload_n hC 0 rfl dX5_isSafe_31 ?_
  refine n_get hC clX5 h0 34 (.int (M.1 a0 34)) (by decide) rfl fl_X5_226 rfl dX5_isSafe_32 ?_
  refine n_aload_n hC 0 rfl dX5_isSafe_35 ?_
  refine n_get hC clX5 h0 35 (.int (M.1 a0 35)) (by decide) rfl fl_X5_229 rfl dX5_isSafe_36 ?_
  refine n_iadd hC dX5_isSafe_39 ?_
  refine n_icmp_gt hC 173 dX5_isSafe_40 (by decide) ?_ ?_
  · exact GN.sub [1] rfl (hkx x1 x2 x3 M)
  refine n_iload_n hC 3 rfl dX5_isSafe_43 ?_
  refine n_aload_n hC 0 rfl dX5_isSafe_44 ?_
  refine n_get hC clX5 h0 34 (.int (M.1 a0 34)) (by decide) rfl fl_X5_226 rfl dX5_isSafe_45 ?_
  refine n_aload_n hC 0 rfl dX5_isSafe_48 ?_
  refine n_get hC clX5 h0 35 (.int (M.1 a0 35)) (by decide) rfl fl_X5_229 rfl dX5_isSafe_49 ?_
  refine n_iadd hC dX5_isSafe_52 ?_
  refine n_icmp_ne hC 60 dX5_isSafe_53 (by decide) ?_ ?_
  · refine n_iconst hC (0 : Int32) (by decide) dX5_isSafe_60 ?_
    exact GN.sub [0, 1, 2, 3] rfl (b_X5_isSafe_61 hC a0 x1 x2 x3 (0 : Int32) h0 kx hkx kb hkb M)
  refine n_iconst hC (1 : Int32) (by decide) dX5_isSafe_56 ?_
  refine n_goto hC (tgt := 61) (by decide) dX5_isSafe_57 ?_
  exact GN.sub [0, 1, 2, 3] rfl (b_X5_isSafe_61 hC a0 x1 x2 x3 (1 : Int32) h0 kx hkx kb hkb M)
def l_X5_isSafe_30 (kx : Int32 → Int32 → Int32 → Me → Option (Int32 × Me)) (a0 : Nat) (x1 : Int32) (x2 : Int32) (x3 : Int32) (M : Me) : Option (Int32 × Me) := lp (fun kb z => g_X5_isSafe_30 kx kb a0 z.1 z.2.1 z.2.2.1 z.2.2.2) FU (x1, x2, x3, M)
set_option maxHeartbeats 4000000 in
set_option maxRecDepth 100000 in
theorem b_X5_isSafe_30 {p : Program} {l : Launch} {e : Env} {s : State} {m : MethodId} {args : Array Value} {below : List Frame} {meth : Method} {c : Code} {D : va_G} {T : Nat → ClassId} {b : Nat} (hC : CX p s m args meth c cX5_isSafe 6 RX5 (some .boolean) D T) (a0 : Nat) (x1 : Int32) (x2 : Int32) (x3 : Int32) (h0 : kd a0 = 5) (kx : Int32 → Int32 → Int32 → Me → Option (Int32 × Me)) (hkx : ∀ (x1 : Int32) (x2 : Int32) (x3 : Int32) (M : Me), GN p l e (k2_rm 0 0) s m args below meth c D T b 6 eI 173 [(1, .int x1)] [] M (kx x1 x2 x3 M)) (M : Me) : GN p l e (k2_rm 0 0) s m args below meth c D T b 6 eI 30 [(0, .ref (b + a0)), (1, .int x1), (2, .int x2), (3, .int x3)] [] M (l_X5_isSafe_30 kx a0 x1 x2 x3 M) := by
  exact n_loop (σ := Int32 × Int32 × Int32 × Me) (fun z => [(0, .ref (b + a0)), (1, .int z.1), (2, .int z.2.1), (3, .int z.2.2.1)]) (fun z => z.2.2.2) (fun kb hkb z => b_X5_isSafe_30_g hC a0 z.1 z.2.1 z.2.2.1 h0 kx hkx kb hkb z.2.2.2) FU (x1, x2, x3, M)
def j_X5_isSafe_19 (a0 : Nat) (s0 : Int32) (M : Me) : Option (Int32 × Me) := bndV (M.1 a0 34) (fun v2 => bndV (M.1 a0 34) (fun v3 => l_X5_isSafe_30 (fun v11 v12 v13 M14 => chZ v11 (some (v11, M14))) a0 s0 v2 v3 M))
set_option maxHeartbeats 4000000 in
set_option maxRecDepth 100000 in
theorem b_X5_isSafe_19 {p : Program} {l : Launch} {e : Env} {s : State} {m : MethodId} {args : Array Value} {below : List Frame} {meth : Method} {c : Code} {D : va_G} {T : Nat → ClassId} {b : Nat} (hC : CX p s m args meth c cX5_isSafe 6 RX5 (some .boolean) D T) (a0 : Nat) (s0 : Int32) (h0 : kd a0 = 5) (M : Me) : GN p l e (k2_rm 0 0) s m args below meth c D T b 6 eI 19 [(0, .ref (b + a0))] [.int s0] M (j_X5_isSafe_19 a0 s0 M) := by
  unfold j_X5_isSafe_19
  refine n_istore_n hC rfl [(1, .int s0), (0, .ref (b + a0))] (by decide) rfl dX5_isSafe_19 ?_
  refine n_aload_n hC 1 rfl dX5_isSafe_20 ?_
  refine n_get hC clX5 h0 34 (.int (M.1 a0 34)) (by decide) rfl fl_X5_226 rfl dX5_isSafe_21 ?_
  refine n_istB_n hC rfl (fun v2 => [(2, .int v2), (1, .int s0), (0, .ref (b + a0))]) (by decide) (fun _ => rfl) dX5_isSafe_24 (fun v2 => ?_)
  refine n_aload_n hC 2 rfl dX5_isSafe_25 ?_
  refine n_get hC clX5 h0 34 (.int (M.1 a0 34)) (by decide) rfl fl_X5_226 rfl dX5_isSafe_26 ?_
  refine n_istB_n hC rfl (fun v3 => [(3, .int v3), (2, .int v2), (1, .int s0), (0, .ref (b + a0))]) (by decide) (fun _ => rfl) dX5_isSafe_29 (fun v3 => ?_)
  refine GN.sub [3, 2, 1, 0] rfl (b_X5_isSafe_30 hC a0 s0 v2 v3 h0 _ (fun v11 v12 v13 M14 => ?_) M)
  refine n_iload_n hC 0 rfl dX5_isSafe_173 ?_
  exact n_zret hC dX5_isSafe_174
def f_X5_isSafe (M : Me) (a0 : Nat) : Option (Int32 × Me) := chk (M.1 a0 34) (ln (rf a0 23)) (if (M.1 (rf a0 23) (M.1 a0 34).toNatClampNeg) = (47 : Int32) then j_X5_isSafe_19 a0 (0 : Int32) M else j_X5_isSafe_19 a0 (1 : Int32) M)
set_option maxHeartbeats 4000000 in
set_option maxRecDepth 100000 in
theorem c_X5_isSafe (l : Launch) (M : Me) (a0 : Nat) (h0 : kd a0 = 5) : CN l yX5_isSafe cX5_isSafe 6 (some .boolean) (k2_rm 0 0) eI (fun b => [.ref (b + a0)]) M (f_X5_isSafe M a0) := by
  refine CN.of RX5 (fun b => [(0, .ref (b + a0))]) (by decide) rfl (fun b => Nat.le_of_ble_eq_true rfl) (fun b => rfl) ?_
  intro p e s m args below meth c D T b hC
  unfold f_X5_isSafe
  refine n_aload_n hC 0 rfl dX5_isSafe_0 ?_
  refine n_get hC clX5 h0 23 (.ref (b + (rf a0 23))) (by decide) rfl fl_X5_128 rfl dX5_isSafe_1 ?_
  refine n_aload_n hC 0 rfl dX5_isSafe_4 ?_
  refine n_get hC clX5 h0 34 (.int (M.1 a0 34)) (by decide) rfl fl_X5_226 rfl dX5_isSafe_5 ?_
  refine n_iald hC (kf_X5_23 h0) dX5_isSafe_8 (fun g1 => ?_)
  refine n_bipush hC (47 : Int32) (by decide) dX5_isSafe_9 ?_
  refine n_icmp_eq hC 18 dX5_isSafe_11 (by decide) ?_ ?_
  · refine n_iconst hC (0 : Int32) (by decide) dX5_isSafe_18 ?_
    exact GN.sub [0] rfl (b_X5_isSafe_19 hC a0 (0 : Int32) h0 M)
  refine n_iconst hC (1 : Int32) (by decide) dX5_isSafe_14 ?_
  refine n_goto hC (tgt := 19) (by decide) dX5_isSafe_15 ?_
  exact GN.sub [0] rfl (b_X5_isSafe_19 hC a0 (1 : Int32) h0 M)
