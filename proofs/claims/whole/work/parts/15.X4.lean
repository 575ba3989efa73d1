def j_X4_entry_30 (a0 : Nat) (x1 : Int32) (x2 : Int32) (y3 : Int64) (x5 : Int32) (M : Me) : Option (Int32 × Me) := cal (f_X4_fitsName M x1 y3 x5) (fun r1 M2 => if r1 = (0 : Int32) then some ((-3 : Int32), M2) else if (M2.1 a0 4) < (12 : Int32) then chk (M2.1 a0 4) (ln (rf a0 0)) (bndV (rf (rf a0 0) (M2.1 a0 4).toNatClampNeg) (fun v4 => cal (f_X0_begin M2 v4 x1 x2) (fun _ M7 => cal (f_X0_lengthenName M7 v4 y3 x5) (fun _ M9 => bnd (sI M9 a0 4 ((M9.1 a0 4) + (1 : Int32))) (fun M10 => some (((M10.1 a0 4) - (1 : Int32)), M10)))))) else some ((-5 : Int32), M2))
set_option maxHeartbeats 4000000 in
set_option maxRecDepth 100000 in
theorem b_X4_entry_30 {p : Program} {l : Launch} {e : Env} {s : State} {m : MethodId} {args : Array Value} {below : List Frame} {meth : Method} {c : Code} {D : va_G} {T : Nat → ClassId} {b : Nat} (hC : CX p s m args meth c cX4_entry 7 RX4 (some .int) D T) (a0 : Nat) (x1 : Int32) (x2 : Int32) (y3 : Int64) (x5 : Int32) (h0 : kd a0 = 4) (M : Me) : GN p l e (k2_rm 3 72) s m args below meth c D T b 7 eI 30 [(0, .ref (b + a0)), (1, .int x1), (2, .int x2), (3, .long y3), (5, .int x5)] [] M (j_X4_entry_30 a0 x1 x2 y3 x5 M) := by
  unfold j_X4_entry_30
  refine n_iload_n hC 1 rfl dX4_entry_30 ?_
  refine n_lload_n hC 3 rfl dX4_entry_31 ?_
  refine n_iload hC 4 rfl dX4_entry_32 ?_
  refine n_callSi (As := [.int x1, .long y3, .int x5]) (rest := []) hC (c_X4_fitsName l M x1 y3 x5) my_X4_fitsName ml_X4_49 rfl rfl rfl (Nat.le_of_ble_eq_true rfl) ⟨by decide, by decide⟩ dX4_entry_34 (fun r1 M2 => ?_)
  refine n_if_ne hC 43 dX4_entry_37 (by decide) ?_ ?_
  · refine n_aload_n hC 0 rfl dX4_entry_43 ?_
    refine n_get hC clX4 h0 4 (.int (M2.1 a0 4)) (by decide) rfl fl_X4_35 rfl dX4_entry_44 ?_
    refine n_bipush hC (12 : Int32) (by decide) dX4_entry_47 ?_
    refine n_icmp_lt hC 55 dX4_entry_49 (by decide) ?_ ?_
    · refine n_aload_n hC 0 rfl dX4_entry_55 ?_
      refine n_get hC clX4 h0 0 (.ref (b + (rf a0 0))) (by decide) rfl fl_X4_11 rfl dX4_entry_56 ?_
      refine n_aload_n hC 0 rfl dX4_entry_59 ?_
      refine n_get hC clX4 h0 4 (.int (M2.1 a0 4)) (by decide) rfl fl_X4_35 rfl dX4_entry_60 ?_
      refine n_aaldE hC (kf_X4_0 h0) dX4_entry_63 (fun g3 => ?_)
      refine n_astB hC (ke_9 (kf_X4_0 h0) g3) (fun v4 => [(6, .ref (b + v4)), (0, .ref (b + a0)), (1, .int x1), (2, .int x2), (3, .long y3), (5, .int x5)]) (by decide) (fun _ => rfl) dX4_entry_64 (fun v4 k5 => ?_)
      refine n_aload hC 0 rfl dX4_entry_66 ?_
      refine n_iload_n hC 2 rfl dX4_entry_68 ?_
      refine n_iload_n hC 3 rfl dX4_entry_69 ?_
      refine n_callVv (As := [.int x1, .int x2]) (rest := []) k5 rfl (by decide) hC (c_X0_begin l M2 v4 x1 x2 k5) my_X0_begin ml_X4_53 rfl rfl rfl (Nat.le_of_ble_eq_true rfl) ⟨by decide, by decide⟩ dX4_entry_70 (fun r6 M7 => ?_)
      refine n_aload hC 0 rfl dX4_entry_73 ?_
      refine n_lload_n hC 4 rfl dX4_entry_75 ?_
      refine n_iload hC 5 rfl dX4_entry_76 ?_
      refine n_callVv (As := [.long y3, .int x5]) (rest := []) k5 rfl (by decide) hC (c_X0_lengthenName l M7 v4 y3 x5 k5) my_X0_lengthenName ml_X4_57 rfl rfl rfl (Nat.le_of_ble_eq_true rfl) ⟨by decide, by decide⟩ dX4_entry_78 (fun r8 M9 => ?_)
      refine n_aload_n hC 1 rfl dX4_entry_81 ?_
      refine n_dup hC rfl dX4_entry_82 ?_
      refine n_get hC clX4 h0 4 (.int (M9.1 a0 4)) (by decide) rfl fl_X4_35 rfl dX4_entry_83 ?_
      refine n_iconst hC (1 : Int32) (by decide) dX4_entry_86 ?_
      refine n_iadd hC dX4_entry_87 ?_
      refine n_putI hC clX4 h0 4 (by decide) rfl rfl rfl fl_X4_35 dX4_entry_88 (fun M10 => ?_)
      refine n_aload_n hC 1 rfl dX4_entry_91 ?_
      refine n_get hC clX4 h0 4 (.int (M10.1 a0 4)) (by decide) rfl fl_X4_35 rfl dX4_entry_92 ?_
      refine n_iconst hC (1 : Int32) (by decide) dX4_entry_95 ?_
      refine n_isub hC dX4_entry_96 ?_
      exact n_iret hC dX4_entry_97
    refine n_bipush hC (-5 : Int32) (by decide) dX4_entry_52 ?_
    exact n_iret hC dX4_entry_54
  refine n_bipush hC (-3 : Int32) (by decide) dX4_entry_40 ?_
  exact n_iret hC dX4_entry_42
def f_X4_entry (M : Me) (a0 : Nat) (x1 : Int32) (x2 : Int32) (y3 : Int64) (x5 : Int32) : Option (Int32 × Me) := if x1 < (0 : Int32) then some ((-3 : Int32), M) else if (2 : Int32) < x1 then some ((-3 : Int32), M) else if x2 < (0 : Int32) then some ((-3 : Int32), M) else if (2 : Int32) < x2 then some ((-3 : Int32), M) else if x1 = (2 : Int32) then if x2 = (0 : Int32) then j_X4_entry_30 a0 x1 x2 y3 x5 M else some ((-3 : Int32), M) else j_X4_entry_30 a0 x1 x2 y3 x5 M
set_option maxHeartbeats 4000000 in
set_option maxRecDepth 100000 in
theorem c_X4_entry (l : Launch) (M : Me) (a0 : Nat) (x1 : Int32) (x2 : Int32) (y3 : Int64) (x5 : Int32) (h0 : kd a0 = 4) : CN l yX4_entry cX4_entry 7 (some .int) (k2_rm 3 72) eI (fun b => [.ref (b + a0), .int x1, .int x2, .long y3, .int x5]) M (f_X4_entry M a0 x1 x2 y3 x5) := by
  refine CN.of RX4 (fun b => [(0, .ref (b + a0)), (1, .int x1), (2, .int x2), (3, .long y3), (5, .int x5)]) (by decide) rfl (fun b => Nat.le_of_ble_eq_true rfl) (fun b => rfl) ?_
  intro p e s m args below meth c D T b hC
  unfold f_X4_entry
  refine n_iload_n hC 1 rfl dX4_entry_0 ?_
  refine n_if_lt hC 27 dX4_entry_1 (by decide) ?_ ?_
  · refine n_bipush hC (-3 : Int32) (by decide) dX4_entry_27 ?_
    exact n_iret hC dX4_entry_29
  refine n_iload_n hC 1 rfl dX4_entry_4 ?_
  refine n_iconst hC (2 : Int32) (by decide) dX4_entry_5 ?_
  refine n_icmp_gt hC 27 dX4_entry_6 (by decide) ?_ ?_
  · refine n_bipush hC (-3 : Int32) (by decide) dX4_entry_27 ?_
    exact n_iret hC dX4_entry_29
  refine n_iload_n hC 2 rfl dX4_entry_9 ?_
  refine n_if_lt hC 27 dX4_entry_10 (by decide) ?_ ?_
  · refine n_bipush hC (-3 : Int32) (by decide) dX4_entry_27 ?_
    exact n_iret hC dX4_entry_29
  refine n_iload_n hC 2 rfl dX4_entry_13 ?_
  refine n_iconst hC (2 : Int32) (by decide) dX4_entry_14 ?_
  refine n_icmp_gt hC 27 dX4_entry_15 (by decide) ?_ ?_
  · refine n_bipush hC (-3 : Int32) (by decide) dX4_entry_27 ?_
    exact n_iret hC dX4_entry_29
  refine n_iload_n hC 1 rfl dX4_entry_18 ?_
  refine n_iconst hC (2 : Int32) (by decide) dX4_entry_19 ?_
  refine n_icmp_ne hC 30 dX4_entry_20 (by decide) ?_ ?_
  · exact GN.sub [0, 1, 2, 3, 4] rfl (b_X4_entry_30 hC a0 x1 x2 y3 x5 h0 M)
  refine n_iload_n hC 2 rfl dX4_entry_23 ?_
  refine n_if_eq hC 30 dX4_entry_24 (by decide) ?_ ?_
  · exact GN.sub [0, 1, 2, 3, 4] rfl (b_X4_entry_30 hC a0 x1 x2 y3 x5 h0 M)
  refine n_bipush hC (-3 : Int32) (by decide) dX4_entry_27 ?_
  exact n_iret hC dX4_entry_29
def f_X4_isUnknown (M : Me) (a0 : Nat) (x1 : Int32) : Option (Int32 × Me) := if x1 < (0 : Int32) then chZ (1 : Int32) (some ((1 : Int32), M)) else if (M.1 a0 4) ≤ x1 then chZ (1 : Int32) (some ((1 : Int32), M)) else if x1 < (12 : Int32) then chZ (0 : Int32) (some ((0 : Int32), M)) else chZ (1 : Int32) (some ((1 : Int32), M))
set_option maxHeartbeats 4000000 in
set_option maxRecDepth 100000 in
theorem c_X4_isUnknown (l : Launch) (M : Me) (a0 : Nat) (x1 : Int32) (h0 : kd a0 = 4) : CN l yX4_isUnknown cX4_isUnknown 2 (some .boolean) (k2_rm 0 0) eI (fun b => [.ref (b + a0), .int x1]) M (f_X4_isUnknown M a0 x1) := by
  refine CN.of RX4 (fun b => [(0, .ref (b + a0)), (1, .int x1)]) (by decide) rfl (fun b => Nat.le_of_ble_eq_true rfl) (fun b => rfl) ?_
  intro p e s m args below meth c D T b hC
  unfold f_X4_isUnknown
  refine n_iload_n hC 1 rfl dX4_isUnknown_0 ?_
  refine n_if_lt hC 18 dX4_isUnknown_1 (by decide) ?_ ?_
  · refine n_iconst hC (1 : Int32) (by decide) dX4_isUnknown_18 ?_
    refine n_goto hC (tgt := 23) (by decide) dX4_isUnknown_19 ?_
    exact n_zret hC dX4_isUnknown_23
  refine n_iload_n hC 1 rfl dX4_isUnknown_4 ?_
  refine n_aload_n hC 0 rfl dX4_isUnknown_5 ?_
  refine n_get hC clX4 h0 4 (.int (M.1 a0 4)) (by decide) rfl fl_X4_35 rfl dX4_isUnknown_6 ?_
  refine n_icmp_ge hC 18 dX4_isUnknown_9 (by decide) ?_ ?_
  · refine n_iconst hC (1 : Int32) (by decide) dX4_isUnknown_18 ?_
    refine n_goto hC (tgt := 23) (by decide) dX4_isUnknown_19 ?_
    exact n_zret hC dX4_isUnknown_23
  refine n_iload_n hC 1 rfl dX4_isUnknown_12 ?_
  refine n_bipush hC (12 : Int32) (by decide) dX4_isUnknown_13 ?_
  refine n_icmp_lt hC 22 dX4_isUnknown_15 (by decide) ?_ ?_
  · refine n_iconst hC (0 : Int32) (by decide) dX4_isUnknown_22 ?_
    exact n_zret hC dX4_isUnknown_23
  refine n_iconst hC (1 : Int32) (by decide) dX4_isUnknown_18 ?_
  refine n_goto hC (tgt := 23) (by decide) dX4_isUnknown_19 ?_
  exact n_zret hC dX4_isUnknown_23
def f_X4_name (M : Me) (a0 : Nat) (x1 : Int32) (y2 : Int64) (x4 : Int32) : Option (Int32 × Me) := cal (f_X4_isUnknown M a0 x1) (fun r1 M2 => if r1 = (0 : Int32) then chk x1 (ln (rf a0 0)) (bndV (rf (rf a0 0) x1.toNatClampNeg) (fun v4 => cal (f_X4_fitsName M2 (M2.1 v4 5) y2 x4) (fun r6 M7 => if r6 = (0 : Int32) then some ((-3 : Int32), M7) else if ((M7.1 v4 7) + x4) ≤ (16 : Int32) then cal (f_X0_lengthenName M7 v4 y2 x4) (fun _ M9 => some ((M9.1 v4 7), M9)) else some ((-5 : Int32), M7)))) else some ((-2 : Int32), M2))
set_option maxHeartbeats 4000000 in
set_option maxRecDepth 100000 in
theorem c_X4_name (l : Launch) (M : Me) (a0 : Nat) (x1 : Int32) (y2 : Int64) (x4 : Int32) (h0 : kd a0 = 4) : CN l yX4_name cX4_name 6 (some .int) (k2_rm 3 72) eI (fun b => [.ref (b + a0), .int x1, .long y2, .int x4]) M (f_X4_name M a0 x1 y2 x4) := by
  refine CN.of RX4 (fun b => [(0, .ref (b + a0)), (1, .int x1), (2, .long y2), (4, .int x4)]) (by decide) rfl (fun b => Nat.le_of_ble_eq_true rfl) (fun b => rfl) ?_
  intro p e s m args below meth c D T b hC
  unfold f_X4_name
  refine n_aload_n hC 0 rfl dX4_name_0 ?_
  refine n_iload_n hC 1 rfl dX4_name_1 ?_
  refine n_callVi (As := [.int x1]) (rest := []) h0 rfl (by decide) hC (c_X4_isUnknown l M a0 x1 h0) my_X4_isUnknown ml_X4_61 rfl rfl rfl (Nat.le_of_ble_eq_true rfl) ⟨by decide, by decide⟩ dX4_name_2 (fun r1 M2 => ?_)
  refine n_if_eq hC 11 dX4_name_5 (by decide) ?_ ?_
  · refine n_aload_n hC 0 rfl dX4_name_11 ?_
    refine n_get hC clX4 h0 0 (.ref (b + (rf a0 0))) (by decide) rfl fl_X4_11 rfl dX4_name_12 ?_
    refine n_iload_n hC 1 rfl dX4_name_15 ?_
    refine n_aaldE hC (kf_X4_0 h0) dX4_name_16 (fun g3 => ?_)
    refine n_astB hC (ke_9 (kf_X4_0 h0) g3) (fun v4 => [(5, .ref (b + v4)), (0, .ref (b + a0)), (1, .int x1), (2, .long y2), (4, .int x4)]) (by decide) (fun _ => rfl) dX4_name_17 (fun v4 k5 => ?_)
    refine n_aload hC 0 rfl dX4_name_19 ?_
    refine n_get hC clX0 k5 5 (.int (M2.1 v4 5)) (by decide) rfl fl_X4_65 rfl dX4_name_21 ?_
    refine n_lload_n hC 3 rfl dX4_name_24 ?_
    refine n_iload hC 4 rfl dX4_name_25 ?_
    refine n_callSi (As := [.int (M2.1 v4 5), .long y2, .int x4]) (rest := []) hC (c_X4_fitsName l M2 (M2.1 v4 5) y2 x4) my_X4_fitsName ml_X4_49 rfl rfl rfl (Nat.le_of_ble_eq_true rfl) ⟨by decide, by decide⟩ dX4_name_27 (fun r6 M7 => ?_)
    refine n_if_ne hC 36 dX4_name_30 (by decide) ?_ ?_
    · refine n_aload hC 0 rfl dX4_name_36 ?_
      refine n_get hC clX0 k5 7 (.int (M7.1 v4 7)) (by decide) rfl fl_X4_68 rfl dX4_name_38 ?_
      refine n_iload hC 4 rfl dX4_name_41 ?_
      refine n_iadd hC dX4_name_43 ?_
      refine n_bipush hC (16 : Int32) (by decide) dX4_name_44 ?_
      refine n_icmp_le hC 52 dX4_name_46 (by decide) ?_ ?_
      · refine n_aload hC 0 rfl dX4_name_52 ?_
        refine n_lload_n hC 3 rfl dX4_name_54 ?_
        refine n_iload hC 4 rfl dX4_name_55 ?_
        refine n_callVv (As := [.long y2, .int x4]) (rest := []) k5 rfl (by decide) hC (c_X0_lengthenName l M7 v4 y2 x4 k5) my_X0_lengthenName ml_X4_57 rfl rfl rfl (Nat.le_of_ble_eq_true rfl) ⟨by decide, by decide⟩ dX4_name_57 (fun r8 M9 => ?_)
        refine n_aload hC 0 rfl dX4_name_60 ?_
        refine n_get hC clX0 k5 7 (.int (M9.1 v4 7)) (by decide) rfl fl_X4_68 rfl dX4_name_62 ?_
        exact n_iret hC dX4_name_65
      refine n_bipush hC (-5 : Int32) (by decide) dX4_name_49 ?_
      exact n_iret hC dX4_name_51
    refine n_bipush hC (-3 : Int32) (by decide) dX4_name_33 ?_
    exact n_iret hC dX4_name_35
  refine n_bipush hC (-2 : Int32) (by decide) dX4_name_8 ?_
  exact n_iret hC dX4_name_10
def f_X4_faultOf (M : Me) (a0 : Nat) (x1 : Int32) : Option (Int32 × Me) := bnd (sI M a0 6 x1) (fun M1 => some (((-30 : Int32) - x1), M1))
set_option maxHeartbeats 4000000 in
set_option maxRecDepth 100000 in
theorem c_X4_faultOf (l : Launch) (M : Me) (a0 : Nat) (x1 : Int32) (h0 : kd a0 = 4) : CN l yX4_faultOf cX4_faultOf 2 (some .int) (k2_rm 0 0) eI (fun b => [.ref (b + a0), .int x1]) M (f_X4_faultOf M a0 x1) := by
  refine CN.of RX4 (fun b => [(0, .ref (b + a0)), (1, .int x1)]) (by decide) rfl (fun b => Nat.le_of_ble_eq_true rfl) (fun b => rfl) ?_
  intro p e s m args below meth c D T b hC
  unfold f_X4_faultOf
  refine n_aload_n hC 0 rfl dX4_faultOf_0 ?_
  refine n_iload_n hC 1 rfl dX4_faultOf_1 ?_
  refine n_putI hC clX4 h0 6 (by decide) rfl rfl rfl fl_X4_42 dX4_faultOf_2 (fun M1 => ?_)
  refine n_bipush hC (-30 : Int32) (by decide) dX4_faultOf_5 ?_
  refine n_iload_n hC 1 rfl dX4_faultOf_7 ?_
  refine n_isub hC dX4_faultOf_8 ?_
  exact n_iret hC dX4_faultOf_9
def f_X4_data (M : Me) (a0 : Nat) (x1 : Int32) (y2 : Int64) (x4 : Int32) : Option (Int32 × Me) := cal (f_X4_isUnknown M a0 x1) (fun r1 M2 => if r1 = (0 : Int32) then if x4 < (0 : Int32) then some ((-3 : Int32), M2) else if x4 ≤ (8 : Int32) then chk x1 (ln (rf a0 0)) (bndV (rf (rf a0 0) x1.toNatClampNeg) (fun v4 => if (M2.1 v4 5) = (2 : Int32) then cal (f_X4_faultOf M2 a0 (2 : Int32)) (fun r11 M12 => some (r11, M12)) else if ((M2.1 v4 8) + x4) ≤ (40 : Int32) then cal (f_X4_spread M2 y2 x4 (rf v4 1) (M2.1 v4 8)) (fun _ M7 => bnd (sI M7 v4 8 ((M7.1 v4 8) + x4)) (fun M8 => chZ (1 : Int32) (bnd (sI M8 v4 10 (1 : Int32)) (fun M9 => chZ (0 : Int32) (bnd (sI M9 v4 11 (0 : Int32)) (fun M10 => some ((M10.1 v4 8), M10))))))) else some ((-5 : Int32), M2))) else some ((-3 : Int32), M2) else some ((-2 : Int32), M2))
set_option maxHeartbeats 4000000 in
set_option maxRecDepth 100000 in
theorem c_X4_data (l : Launch) (M : Me) (a0 : Nat) (x1 : Int32) (y2 : Int64) (x4 : Int32) (h0 : kd a0 = 4) : CN l yX4_data cX4_data 6 (some .int) (k2_rm 2 48) eI (fun b => [.ref (b + a0), .int x1, .long y2, .int x4]) M (f_X4_data M a0 x1 y2 x4) := by
  refine CN.of RX4 (fun b => [(0, .ref (b + a0)), (1, .int x1), (2, .long y2), (4, .int x4)]) (by decide) rfl (fun b => Nat.le_of_ble_eq_true rfl) (fun b => rfl) ?_
  intro p e s m args below meth c D T b hC
  unfold f_X4_data
  refine n_aload_n hC 0 rfl dX4_data_0 ?_
  refine n_iload_n hC 1 rfl dX4_data_1 ?_
  refine n_callVi (As := [.int x1]) (rest := []) h0 rfl (by decide) hC (c_X4_isUnknown l M a0 x1 h0) my_X4_isUnknown ml_X4_61 rfl rfl rfl (Nat.le_of_ble_eq_true rfl) ⟨by decide, by decide⟩ dX4_data_2 (fun r1 M2 => ?_)
  refine n_if_eq hC 11 dX4_data_5 (by decide) ?_ ?_
  · refine n_iload hC 3 rfl dX4_data_11 ?_
    refine n_if_lt hC 23 dX4_data_13 (by decide) ?_ ?_
    · refine n_bipush hC (-3 : Int32) (by decide) dX4_data_23 ?_
      exact n_iret hC dX4_data_25
    refine n_iload hC 3 rfl dX4_data_16 ?_
    refine n_bipush hC (8 : Int32) (by decide) dX4_data_18 ?_
    refine n_icmp_le hC 26 dX4_data_20 (by decide) ?_ ?_
    · refine n_aload_n hC 0 rfl dX4_data_26 ?_
      refine n_get hC clX4 h0 0 (.ref (b + (rf a0 0))) (by decide) rfl fl_X4_11 rfl dX4_data_27 ?_
      refine n_iload_n hC 1 rfl dX4_data_30 ?_
      refine n_aaldE hC (kf_X4_0 h0) dX4_data_31 (fun g3 => ?_)
      refine n_astB hC (ke_9 (kf_X4_0 h0) g3) (fun v4 => [(5, .ref (b + v4)), (0, .ref (b + a0)), (1, .int x1), (2, .long y2), (4, .int x4)]) (by decide) (fun _ => rfl) dX4_data_32 (fun v4 k5 => ?_)
      refine n_aload hC 0 rfl dX4_data_34 ?_
      refine n_get hC clX0 k5 5 (.int (M2.1 v4 5)) (by decide) rfl fl_X4_65 rfl dX4_data_36 ?_
      refine n_iconst hC (2 : Int32) (by decide) dX4_data_39 ?_
      refine n_icmp_ne hC 49 dX4_data_40 (by decide) ?_ ?_
      · refine n_aload hC 0 rfl dX4_data_49 ?_
        refine n_get hC clX0 k5 8 (.int (M2.1 v4 8)) (by decide) rfl fl_X4_75 rfl dX4_data_51 ?_
        refine n_iload hC 4 rfl dX4_data_54 ?_
        refine n_iadd hC dX4_data_56 ?_
        refine n_bipush hC (40 : Int32) (by decide) dX4_data_57 ?_
        refine n_icmp_le hC 65 dX4_data_59 (by decide) ?_ ?_
        · refine n_lload_n hC 3 rfl dX4_data_65 ?_
          refine n_iload hC 4 rfl dX4_data_66 ?_
          refine n_aload hC 0 rfl dX4_data_68 ?_
          refine n_get hC clX0 k5 1 (.ref (b + (rf v4 1))) (by decide) rfl fl_X4_78 rfl dX4_data_70 ?_
          refine n_aload hC 0 rfl dX4_data_73 ?_
          refine n_get hC clX0 k5 8 (.int (M2.1 v4 8)) (by decide) rfl fl_X4_75 rfl dX4_data_75 ?_
          refine n_callSv (As := [.long y2, .int x4, .ref (b + (rf v4 1)), .int (M2.1 v4 8)]) (rest := []) hC (c_X4_spread l M2 y2 x4 (rf v4 1) (M2.1 v4 8) (kf_X0_1 k5)) my_X4_spread ml_X4_81 rfl rfl rfl (Nat.le_of_ble_eq_true rfl) ⟨by decide, by decide⟩ dX4_data_78 (fun r6 M7 => ?_)
          refine n_aload hC 0 rfl dX4_data_81 ?_
          refine n_dup hC rfl dX4_data_83 ?_
          refine n_get hC clX0 k5 8 (.int (M7.1 v4 8)) (by decide) rfl fl_X4_75 rfl dX4_data_84 ?_
          refine n_iload hC 4 rfl dX4_data_87 ?_
          refine n_iadd hC dX4_data_89 ?_
          refine n_putI hC clX0 k5 8 (by decide) rfl rfl rfl fl_X4_75 dX4_data_90 (fun M8 => ?_)
          refine n_aload hC 0 rfl dX4_data_93 ?_
          refine n_iconst hC (1 : Int32) (by decide) dX4_data_95 ?_
          refine n_putZ hC clX0 k5 10 (by decide) rfl rfl rfl fl_X4_85 dX4_data_96 (fun M9 => ?_)
          refine n_aload hC 0 rfl dX4_data_99 ?_
          refine n_iconst hC (0 : Int32) (by decide) dX4_data_101 ?_
          refine n_putZ hC clX0 k5 11 (by decide) rfl rfl rfl fl_X4_89 dX4_data_102 (fun M10 => ?_)
          refine n_aload hC 0 rfl dX4_data_105 ?_
          refine n_get hC clX0 k5 8 (.int (M10.1 v4 8)) (by decide) rfl fl_X4_75 rfl dX4_data_107 ?_
          exact n_iret hC dX4_data_110
        refine n_bipush hC (-5 : Int32) (by decide) dX4_data_62 ?_
        exact n_iret hC dX4_data_64
      refine n_aload_n hC 1 rfl dX4_data_43 ?_
      refine n_iconst hC (2 : Int32) (by decide) dX4_data_44 ?_
      refine n_callVi (As := [.int (2 : Int32)]) (rest := []) h0 rfl (by decide) hC (c_X4_faultOf l M2 a0 (2 : Int32) h0) my_X4_faultOf ml_X4_71 rfl rfl rfl (Nat.le_of_ble_eq_true rfl) ⟨by decide, by decide⟩ dX4_data_45 (fun r11 M12 => ?_)
      exact n_iret hC dX4_data_48
    refine n_bipush hC (-3 : Int32) (by decide) dX4_data_23 ?_
    exact n_iret hC dX4_data_25
  refine n_bipush hC (-2 : Int32) (by decide) dX4_data_8 ?_
  exact n_iret hC dX4_data_10
def f_X4_packed (M : Me) (a0 : Nat) (x1 : Int32) (x2 : Int32) (x3 : Int32) : Option (Int32 × Me) := cal (f_X4_isUnknown M a0 x1) (fun r1 M2 => if r1 = (0 : Int32) then if x2 < (0 : Int32) then some ((-3 : Int32), M2) else if x2 ≤ (1000000 : Int32) then chk x1 (ln (rf a0 0)) (bndV (rf (rf a0 0) x1.toNatClampNeg) (fun v4 => if (M2.1 v4 5) = (1 : Int32) then bnd (sI M2 v4 12 x2) (fun M6 => bnd (sI M6 v4 13 x3) (fun M7 => some ((1 : Int32), M7))) else cal (f_X4_faultOf M2 a0 (2 : Int32)) (fun r8 M9 => some (r8, M9)))) else some ((-3 : Int32), M2) else some ((-2 : Int32), M2))
set_option maxHeartbeats 4000000 in
set_option maxRecDepth 100000 in
theorem c_X4_packed (l : Launch) (M : Me) (a0 : Nat) (x1 : Int32) (x2 : Int32) (x3 : Int32) (h0 : kd a0 = 4) : CN l yX4_packed cX4_packed 5 (some .int) (k2_rm 1 21) eI (fun b => [.ref (b + a0), .int x1, .int x2, .int x3]) M (f_X4_packed M a0 x1 x2 x3) := by
  refine CN.of RX4 (fun b => [(0, .ref (b + a0)), (1, .int x1), (2, .int x2), (3, .int x3)]) (by decide) rfl (fun b => Nat.le_of_ble_eq_true rfl) (fun b => rfl) ?_
  intro p e s m args below meth c D T b hC
  unfold f_X4_packed
  refine n_aload_n hC 0 rfl dX4_packed_0 ?_
  refine n_iload_n hC 1 rfl dX4_packed_1 ?_
  refine n_callVi (As := [.int x1]) (rest := []) h0 rfl (by decide) hC (c_X4_isUnknown l M a0 x1 h0) my_X4_isUnknown ml_X4_61 rfl rfl rfl (Nat.le_of_ble_eq_true rfl) ⟨by decide, by decide⟩ dX4_packed_2 (fun r1 M2 => ?_)
  refine n_if_eq hC 11 dX4_packed_5 (by decide) ?_ ?_
  · refine n_iload_n hC 2 rfl dX4_packed_11 ?_
    refine n_if_lt hC 21 dX4_packed_12 (by decide) ?_ ?_
    · refine n_bipush hC (-3 : Int32) (by decide) dX4_packed_21 ?_
      exact n_iret hC dX4_packed_23
    refine n_iload_n hC 2 rfl dX4_packed_15 ?_
    refine n_ldc hC (1000000 : Int32) kc_X4_92 dX4_packed_16 ?_
    refine n_icmp_le hC 24 dX4_packed_18 (by decide) ?_ ?_
    · refine n_aload_n hC 0 rfl dX4_packed_24 ?_
      refine n_get hC clX4 h0 0 (.ref (b + (rf a0 0))) (by decide) rfl fl_X4_11 rfl dX4_packed_25 ?_
      refine n_iload_n hC 1 rfl dX4_packed_28 ?_
      refine n_aaldE hC (kf_X4_0 h0) dX4_packed_29 (fun g3 => ?_)
      refine n_astB hC (ke_9 (kf_X4_0 h0) g3) (fun v4 => [(4, .ref (b + v4)), (0, .ref (b + a0)), (1, .int x1), (2, .int x2), (3, .int x3)]) (by decide) (fun _ => rfl) dX4_packed_30 (fun v4 k5 => ?_)
      refine n_aload hC 0 rfl dX4_packed_32 ?_
      refine n_get hC clX0 k5 5 (.int (M2.1 v4 5)) (by decide) rfl fl_X4_65 rfl dX4_packed_34 ?_
      refine n_iconst hC (1 : Int32) (by decide) dX4_packed_37 ?_
      refine n_icmp_eq hC 47 dX4_packed_38 (by decide) ?_ ?_
      · refine n_aload hC 0 rfl dX4_packed_47 ?_
        refine n_iload_n hC 3 rfl dX4_packed_49 ?_
        refine n_putI hC clX0 k5 12 (by decide) rfl rfl rfl fl_X4_93 dX4_packed_50 (fun M6 => ?_)
        refine n_aload hC 0 rfl dX4_packed_53 ?_
        refine n_iload_n hC 4 rfl dX4_packed_55 ?_
        refine n_putI hC clX0 k5 13 (by decide) rfl rfl rfl fl_X4_96 dX4_packed_56 (fun M7 => ?_)
        refine n_iconst hC (1 : Int32) (by decide) dX4_packed_59 ?_
        exact n_iret hC dX4_packed_60
      refine n_aload_n hC 1 rfl dX4_packed_41 ?_
      refine n_iconst hC (2 : Int32) (by decide) dX4_packed_42 ?_
      refine n_callVi (As := [.int (2 : Int32)]) (rest := []) h0 rfl (by decide) hC (c_X4_faultOf l M2 a0 (2 : Int32) h0) my_X4_faultOf ml_X4_71 rfl rfl rfl (Nat.le_of_ble_eq_true rfl) ⟨by decide, by decide⟩ dX4_packed_43 (fun r8 M9 => ?_)
      exact n_iret hC dX4_packed_46
    refine n_bipush hC (-3 : Int32) (by decide) dX4_packed_21 ?_
    exact n_iret hC dX4_packed_23
  refine n_bipush hC (-2 : Int32) (by decide) dX4_packed_8 ?_
  exact n_iret hC dX4_packed_10
def f_X4_part (M : Me) (a0 : Nat) (x1 : Int32) (x2 : Int32) (y3 : Int64) (x5 : Int32) : Option (Int32 × Me) := cal (f_X4_isUnknown M a0 x1) (fun r1 M2 => if r1 = (0 : Int32) then if x2 ≤ (1 : Int32) then some ((-3 : Int32), M2) else if (65535 : Int32) < x2 then some ((-3 : Int32), M2) else if x5 < (0 : Int32) then some ((-3 : Int32), M2) else if x5 ≤ (8 : Int32) then chk x1 (ln (rf a0 0)) (bndV (rf (rf a0 0) x1.toNatClampNeg) (fun v4 => if (M2.1 v4 9) < (3 : Int32) then chk (M2.1 v4 9) (ln (rf v4 2)) (bnd (sI M2 (rf v4 2) (M2.1 v4 9).toNatClampNeg x2) (fun M6 => chk (M6.1 v4 9) (ln (rf v4 3)) (bnd (sI M6 (rf v4 3) (M6.1 v4 9).toNatClampNeg x5) (fun M7 => cal (f_X4_spread M7 y3 x5 (rf v4 4) ((M7.1 v4 9) * (8 : Int32))) (fun _ M9 => bnd (sI M9 v4 9 ((M9.1 v4 9) + (1 : Int32))) (fun M10 => some ((M10.1 v4 9), M10))))))) else some ((-5 : Int32), M2))) else some ((-3 : Int32), M2) else some ((-2 : Int32), M2))
set_option maxHeartbeats 4000000 in
set_option maxRecDepth 100000 in
theorem c_X4_part (l : Launch) (M : Me) (a0 : Nat) (x1 : Int32) (x2 : Int32) (y3 : Int64) (x5 : Int32) (h0 : kd a0 = 4) : CN l yX4_part cX4_part 7 (some .int) (k2_rm 2 48) eI (fun b => [.ref (b + a0), .int x1, .int x2, .long y3, .int x5]) M (f_X4_part M a0 x1 x2 y3 x5) := by
  refine CN.of RX4 (fun b => [(0, .ref (b + a0)), (1, .int x1), (2, .int x2), (3, .long y3), (5, .int x5)]) (by decide) rfl (fun b => Nat.le_of_ble_eq_true rfl) (fun b => rfl) ?_
  intro p e s m args below meth c D T b hC
  unfold f_X4_part
  refine n_aload_n hC 0 rfl dX4_part_0 ?_
  refine n_iload_n hC 1 rfl dX4_part_1 ?_
  refine n_callVi (As := [.int x1]) (rest := []) h0 rfl (by decide) hC (c_X4_isUnknown l M a0 x1 h0) my_X4_isUnknown ml_X4_61 rfl rfl rfl (Nat.le_of_ble_eq_true rfl) ⟨by decide, by decide⟩ dX4_part_2 (fun r1 M2 => ?_)
  refine n_if_eq hC 11 dX4_part_5 (by decide) ?_ ?_
  · refine n_iload_n hC 2 rfl dX4_part_11 ?_
    refine n_iconst hC (1 : Int32) (by decide) dX4_part_12 ?_
    refine n_icmp_le hC 34 dX4_part_13 (by decide) ?_ ?_
    · refine n_bipush hC (-3 : Int32) (by decide) dX4_part_34 ?_
      exact n_iret hC dX4_part_36
    refine n_iload_n hC 2 rfl dX4_part_16 ?_
    refine n_ldc hC (65535 : Int32) kc_X4_99 dX4_part_17 ?_
    refine n_icmp_gt hC 34 dX4_part_19 (by decide) ?_ ?_
    · refine n_bipush hC (-3 : Int32) (by decide) dX4_part_34 ?_
      exact n_iret hC dX4_part_36
    refine n_iload hC 4 rfl dX4_part_22 ?_
    refine n_if_lt hC 34 dX4_part_24 (by decide) ?_ ?_
    · refine n_bipush hC (-3 : Int32) (by decide) dX4_part_34 ?_
      exact n_iret hC dX4_part_36
    refine n_iload hC 4 rfl dX4_part_27 ?_
    refine n_bipush hC (8 : Int32) (by decide) dX4_part_29 ?_
    refine n_icmp_le hC 37 dX4_part_31 (by decide) ?_ ?_
    · refine n_aload_n hC 0 rfl dX4_part_37 ?_
      refine n_get hC clX4 h0 0 (.ref (b + (rf a0 0))) (by decide) rfl fl_X4_11 rfl dX4_part_38 ?_
      refine n_iload_n hC 1 rfl dX4_part_41 ?_
      refine n_aaldE hC (kf_X4_0 h0) dX4_part_42 (fun g3 => ?_)
      refine n_astB hC (ke_9 (kf_X4_0 h0) g3) (fun v4 => [(6, .ref (b + v4)), (0, .ref (b + a0)), (1, .int x1), (2, .int x2), (3, .long y3), (5, .int x5)]) (by decide) (fun _ => rfl) dX4_part_43 (fun v4 k5 => ?_)
      refine n_aload hC 0 rfl dX4_part_45 ?_
      refine n_get hC clX0 k5 9 (.int (M2.1 v4 9)) (by decide) rfl fl_X4_100 rfl dX4_part_47 ?_
      refine n_iconst hC (3 : Int32) (by decide) dX4_part_50 ?_
      refine n_icmp_lt hC 57 dX4_part_51 (by decide) ?_ ?_
      · refine n_aload hC 0 rfl dX4_part_57 ?_
        refine n_get hC clX0 k5 2 (.ref (b + (rf v4 2))) (by decide) rfl fl_X4_103 rfl dX4_part_59 ?_
        refine n_aload hC 0 rfl dX4_part_62 ?_
        refine n_get hC clX0 k5 9 (.int (M2.1 v4 9)) (by decide) rfl fl_X4_100 rfl dX4_part_64 ?_
        refine n_iload_n hC 3 rfl dX4_part_67 ?_
        refine n_iast hC (kf_X0_2 k5) dX4_part_68 (fun M6 => ?_)
        refine n_aload hC 0 rfl dX4_part_69 ?_
        refine n_get hC clX0 k5 3 (.ref (b + (rf v4 3))) (by decide) rfl fl_X4_107 rfl dX4_part_71 ?_
        refine n_aload hC 0 rfl dX4_part_74 ?_
        refine n_get hC clX0 k5 9 (.int (M6.1 v4 9)) (by decide) rfl fl_X4_100 rfl dX4_part_76 ?_
        refine n_iload hC 5 rfl dX4_part_79 ?_
        refine n_iast hC (kf_X0_3 k5) dX4_part_81 (fun M7 => ?_)
        refine n_lload_n hC 4 rfl dX4_part_82 ?_
        refine n_iload hC 5 rfl dX4_part_83 ?_
        refine n_aload hC 0 rfl dX4_part_85 ?_
        refine n_get hC clX0 k5 4 (.ref (b + (rf v4 4))) (by decide) rfl fl_X4_110 rfl dX4_part_87 ?_
        refine n_aload hC 0 rfl dX4_part_90 ?_
        refine n_get hC clX0 k5 9 (.int (M7.1 v4 9)) (by decide) rfl fl_X4_100 rfl dX4_part_92 ?_
        refine n_bipush hC (8 : Int32) (by decide) dX4_part_95 ?_
        refine n_imul hC dX4_part_97 ?_
        refine n_callSv (As := [.long y3, .int x5, .ref (b + (rf v4 4)), .int ((M7.1 v4 9) * (8 : Int32))]) (rest := []) hC (c_X4_spread l M7 y3 x5 (rf v4 4) ((M7.1 v4 9) * (8 : Int32)) (kf_X0_4 k5)) my_X4_spread ml_X4_81 rfl rfl rfl (Nat.le_of_ble_eq_true rfl) ⟨by decide, by decide⟩ dX4_part_98 (fun r8 M9 => ?_)
        refine n_aload hC 0 rfl dX4_part_101 ?_
        refine n_dup hC rfl dX4_part_103 ?_
        refine n_get hC clX0 k5 9 (.int (M9.1 v4 9)) (by decide) rfl fl_X4_100 rfl dX4_part_104 ?_
        refine n_iconst hC (1 : Int32) (by decide) dX4_part_107 ?_
        refine n_iadd hC dX4_part_108 ?_
        refine n_putI hC clX0 k5 9 (by decide) rfl rfl rfl fl_X4_100 dX4_part_109 (fun M10 => ?_)
        refine n_aload hC 0 rfl dX4_part_112 ?_
        refine n_get hC clX0 k5 9 (.int (M10.1 v4 9)) (by decide) rfl fl_X4_100 rfl dX4_part_114 ?_
        exact n_iret hC dX4_part_117
      refine n_bipush hC (-5 : Int32) (by decide) dX4_part_54 ?_
      exact n_iret hC dX4_part_56
    refine n_bipush hC (-3 : Int32) (by decide) dX4_part_34 ?_
    exact n_iret hC dX4_part_36
  refine n_bipush hC (-2 : Int32) (by decide) dX4_part_8 ?_
  exact n_iret hC dX4_part_10
def f_X4_stamp (M : Me) (a0 : Nat) (x1 : Int32) (x2 : Int32) (x3 : Int32) (x4 : Int32) (x5 : Int32) : Option (Int32 × Me) := cal (f_X4_isUnknown M a0 x1) (fun r1 M2 => if r1 = (0 : Int32) then if x2 < (1980 : Int32) then some ((-3 : Int32), M2) else if (2107 : Int32) < x2 then some ((-3 : Int32), M2) else if x3 < (1 : Int32) then some ((-3 : Int32), M2) else if (12 : Int32) < x3 then some ((-3 : Int32), M2) else if x4 < (1 : Int32) then some ((-3 : Int32), M2) else if x4 ≤ (31 : Int32) then if x5 < (0 : Int32) then some ((-3 : Int32), M2) else if x5 ≤ (86399 : Int32) then chk x1 (ln (rf a0 0)) (bndV (rf (rf a0 0) x1.toNatClampNeg) (fun v4 => bnd (sI M2 v4 15 ((((x2 - (1980 : Int32)) * (512 : Int32)) + (x3 * (32 : Int32))) + x4)) (fun M6 => ch0 (3600 : Int32) (ch0 (60 : Int32) (ch0 (60 : Int32) (ch0 (60 : Int32) (ch0 (2 : Int32) (bnd (sI M6 v4 14 ((((x5 / (3600 : Int32)) * (2048 : Int32)) + ((iRem (x5 / (60 : Int32)) (60 : Int32)) * (32 : Int32))) + ((iRem x5 (60 : Int32)) / (2 : Int32)))) (fun M7 => some ((1 : Int32), M7)))))))))) else some ((-3 : Int32), M2) else some ((-3 : Int32), M2) else some ((-2 : Int32), M2))
set_option maxHeartbeats 4000000 in
set_option maxRecDepth 100000 in
theorem c_X4_stamp (l : Launch) (M : Me) (a0 : Nat) (x1 : Int32) (x2 : Int32) (x3 : Int32) (x4 : Int32) (x5 : Int32) (h0 : kd a0 = 4) : CN l yX4_stamp cX4_stamp 7 (some .int) (k2_rm 1 21) eI (fun b => [.ref (b + a0), .int x1, .int x2, .int x3, .int x4, .int x5]) M (f_X4_stamp M a0 x1 x2 x3 x4 x5) := by
  refine CN.of RX4 (fun b => [(0, .ref (b + a0)), (1, .int x1), (2, .int x2), (3, .int x3), (4, .int x4), (5, .int x5)]) (by decide) rfl (fun b => Nat.le_of_ble_eq_true rfl) (fun b => rfl) ?_
  intro p e s m args below meth c D T b hC
  unfold f_X4_stamp
  refine n_aload_n hC 0 rfl dX4_stamp_0 ?_
  refine n_iload_n hC 1 rfl dX4_stamp_1 ?_
  refine n_callVi (As := [.int x1]) (rest := []) h0 rfl (by decide) hC (c_X4_isUnknown l M a0 x1 h0) my_X4_isUnknown ml_X4_61 rfl rfl rfl (Nat.le_of_ble_eq_true rfl) ⟨by decide, by decide⟩ dX4_stamp_2 (fun r1 M2 => ?_)
  refine n_if_eq hC 11 dX4_stamp_5 (by decide) ?_ ?_
  · refine n_iload_n hC 2 rfl dX4_stamp_11 ?_
    refine n_sipush hC (1980 : Int32) (by decide) dX4_stamp_12 ?_
    refine n_icmp_lt hC 49 dX4_stamp_15 (by decide) ?_ ?_
    · refine n_bipush hC (-3 : Int32) (by decide) dX4_stamp_49 ?_
      exact n_iret hC dX4_stamp_51
    refine n_iload_n hC 2 rfl dX4_stamp_18 ?_
    refine n_sipush hC (2107 : Int32) (by decide) dX4_stamp_19 ?_
    refine n_icmp_gt hC 49 dX4_stamp_22 (by decide) ?_ ?_
    · refine n_bipush hC (-3 : Int32) (by decide) dX4_stamp_49 ?_
      exact n_iret hC dX4_stamp_51
    refine n_iload_n hC 3 rfl dX4_stamp_25 ?_
    refine n_iconst hC (1 : Int32) (by decide) dX4_stamp_26 ?_
    refine n_icmp_lt hC 49 dX4_stamp_27 (by decide) ?_ ?_
    · refine n_bipush hC (-3 : Int32) (by decide) dX4_stamp_49 ?_
      exact n_iret hC dX4_stamp_51
    refine n_iload_n hC 3 rfl dX4_stamp_30 ?_
    refine n_bipush hC (12 : Int32) (by decide) dX4_stamp_31 ?_
    refine n_icmp_gt hC 49 dX4_stamp_33 (by decide) ?_ ?_
    · refine n_bipush hC (-3 : Int32) (by decide) dX4_stamp_49 ?_
      exact n_iret hC dX4_stamp_51
    refine n_iload hC 4 rfl dX4_stamp_36 ?_
    refine n_iconst hC (1 : Int32) (by decide) dX4_stamp_38 ?_
    refine n_icmp_lt hC 49 dX4_stamp_39 (by decide) ?_ ?_
    · refine n_bipush hC (-3 : Int32) (by decide) dX4_stamp_49 ?_
      exact n_iret hC dX4_stamp_51
    refine n_iload hC 4 rfl dX4_stamp_42 ?_
    refine n_bipush hC (31 : Int32) (by decide) dX4_stamp_44 ?_
    refine n_icmp_le hC 52 dX4_stamp_46 (by decide) ?_ ?_
    · refine n_iload hC 5 rfl dX4_stamp_52 ?_
      refine n_if_lt hC 64 dX4_stamp_54 (by decide) ?_ ?_
      · refine n_bipush hC (-3 : Int32) (by decide) dX4_stamp_64 ?_
        exact n_iret hC dX4_stamp_66
      refine n_iload hC 5 rfl dX4_stamp_57 ?_
      refine n_ldc hC (86399 : Int32) kc_X4_113 dX4_stamp_59 ?_
      refine n_icmp_le hC 67 dX4_stamp_61 (by decide) ?_ ?_
      · refine n_aload_n hC 0 rfl dX4_stamp_67 ?_
        refine n_get hC clX4 h0 0 (.ref (b + (rf a0 0))) (by decide) rfl fl_X4_11 rfl dX4_stamp_68 ?_
        refine n_iload_n hC 1 rfl dX4_stamp_71 ?_
        refine n_aaldE hC (kf_X4_0 h0) dX4_stamp_72 (fun g3 => ?_)
        refine n_astB hC (ke_9 (kf_X4_0 h0) g3) (fun v4 => [(6, .ref (b + v4)), (0, .ref (b + a0)), (1, .int x1), (2, .int x2), (3, .int x3), (4, .int x4), (5, .int x5)]) (by decide) (fun _ => rfl) dX4_stamp_73 (fun v4 k5 => ?_)
        refine n_aload hC 0 rfl dX4_stamp_75 ?_
        refine n_iload_n hC 3 rfl dX4_stamp_77 ?_
        refine n_sipush hC (1980 : Int32) (by decide) dX4_stamp_78 ?_
        refine n_isub hC dX4_stamp_81 ?_
        refine n_sipush hC (512 : Int32) (by decide) dX4_stamp_82 ?_
        refine n_imul hC dX4_stamp_85 ?_
        refine n_iload_n hC 4 rfl dX4_stamp_86 ?_
        refine n_bipush hC (32 : Int32) (by decide) dX4_stamp_87 ?_
        refine n_imul hC dX4_stamp_89 ?_
        refine n_iadd hC dX4_stamp_90 ?_
        refine n_iload hC 5 rfl dX4_stamp_91 ?_
        refine n_iadd hC dX4_stamp_93 ?_
        refine n_putI hC clX0 k5 15 (by decide) rfl rfl rfl fl_X4_114 dX4_stamp_94 (fun M6 => ?_)
        refine n_aload hC 0 rfl dX4_stamp_97 ?_
        refine n_iload hC 6 rfl dX4_stamp_99 ?_
        refine n_sipush hC (3600 : Int32) (by decide) dX4_stamp_101 ?_
        refine n_idiv hC dX4_stamp_104 ?_
        refine n_sipush hC (2048 : Int32) (by decide) dX4_stamp_105 ?_
        refine n_imul hC dX4_stamp_108 ?_
        refine n_iload hC 6 rfl dX4_stamp_109 ?_
        refine n_bipush hC (60 : Int32) (by decide) dX4_stamp_111 ?_
        refine n_idiv hC dX4_stamp_113 ?_
        refine n_bipush hC (60 : Int32) (by decide) dX4_stamp_114 ?_
        refine n_irem hC dX4_stamp_116 ?_
        refine n_bipush hC (32 : Int32) (by decide) dX4_stamp_117 ?_
        refine n_imul hC dX4_stamp_119 ?_
        refine n_iadd hC dX4_stamp_120 ?_
        refine n_iload hC 6 rfl dX4_stamp_121 ?_
        refine n_bipush hC (60 : Int32) (by decide) dX4_stamp_123 ?_
        refine n_irem hC dX4_stamp_125 ?_
        refine n_iconst hC (2 : Int32) (by decide) dX4_stamp_126 ?_
        refine n_idiv hC dX4_stamp_127 ?_
        refine n_iadd hC dX4_stamp_128 ?_
        refine n_putI hC clX0 k5 14 (by decide) rfl rfl rfl fl_X4_117 dX4_stamp_129 (fun M7 => ?_)
        refine n_iconst hC (1 : Int32) (by decide) dX4_stamp_132 ?_
        exact n_iret hC dX4_stamp_133
      refine n_bipush hC (-3 : Int32) (by decide) dX4_stamp_64 ?_
      exact n_iret hC dX4_stamp_66
    refine n_bipush hC (-3 : Int32) (by decide) dX4_stamp_49 ?_
    exact n_iret hC dX4_stamp_51
  refine n_bipush hC (-2 : Int32) (by decide) dX4_stamp_8 ?_
  exact n_iret hC dX4_stamp_10
def f_X4_attributes (M : Me) (a0 : Nat) (x1 : Int32) (x2 : Int32) : Option (Int32 × Me) := cal (f_X4_isUnknown M a0 x1) (fun r1 M2 => if r1 = (0 : Int32) then chk x1 (ln (rf a0 0)) (bnd (sI M2 (rf (rf a0 0) x1.toNatClampNeg) 16 x2) (fun M4 => some ((1 : Int32), M4))) else some ((-2 : Int32), M2))
set_option maxHeartbeats 4000000 in
set_option maxRecDepth 100000 in
theorem c_X4_attributes (l : Launch) (M : Me) (a0 : Nat) (x1 : Int32) (x2 : Int32) (h0 : kd a0 = 4) : CN l yX4_attributes cX4_attributes 3 (some .int) (k2_rm 1 21) eI (fun b => [.ref (b + a0), .int x1, .int x2]) M (f_X4_attributes M a0 x1 x2) := by
  refine CN.of RX4 (fun b => [(0, .ref (b + a0)), (1, .int x1), (2, .int x2)]) (by decide) rfl (fun b => Nat.le_of_ble_eq_true rfl) (fun b => rfl) ?_
  intro p e s m args below meth c D T b hC
  unfold f_X4_attributes
  refine n_aload_n hC 0 rfl dX4_attributes_0 ?_
  refine n_iload_n hC 1 rfl dX4_attributes_1 ?_
  refine n_callVi (As := [.int x1]) (rest := []) h0 rfl (by decide) hC (c_X4_isUnknown l M a0 x1 h0) my_X4_isUnknown ml_X4_61 rfl rfl rfl (Nat.le_of_ble_eq_true rfl) ⟨by decide, by decide⟩ dX4_attributes_2 (fun r1 M2 => ?_)
  refine n_if_eq hC 11 dX4_attributes_5 (by decide) ?_ ?_
  · refine n_aload_n hC 0 rfl dX4_attributes_11 ?_
    refine n_get hC clX4 h0 0 (.ref (b + (rf a0 0))) (by decide) rfl fl_X4_11 rfl dX4_attributes_12 ?_
    refine n_iload_n hC 1 rfl dX4_attributes_15 ?_
    refine n_aaldE hC (kf_X4_0 h0) dX4_attributes_16 (fun g3 => ?_)
    refine n_iload_n hC 2 rfl dX4_attributes_17 ?_
    refine n_putI hC clX0 (ke_9 (kf_X4_0 h0) g3) 16 (by decide) rfl rfl rfl fl_X4_120 dX4_attributes_18 (fun M4 => ?_)
    refine n_iconst hC (1 : Int32) (by decide) dX4_attributes_21 ?_
    exact n_iret hC dX4_attributes_22
  refine n_bipush hC (-2 : Int32) (by decide) dX4_attributes_8 ?_
  exact n_iret hC dX4_attributes_10
def f_X4_clear (M : Me) (a0 : Nat) : Option (Int32 × Me) := bndV (M.1 a0 4) (fun v1 => bnd (sI M a0 4 (0 : Int32)) (fun M2 => some (v1, M2)))
set_option maxHeartbeats 4000000 in
set_option maxRecDepth 100000 in
theorem c_X4_clear (l : Launch) (M : Me) (a0 : Nat) (h0 : kd a0 = 4) : CN l yX4_clear cX4_clear 2 (some .int) (k2_rm 0 0) eI (fun b => [.ref (b + a0)]) M (f_X4_clear M a0) := by
  refine CN.of RX4 (fun b => [(0, .ref (b + a0))]) (by decide) rfl (fun b => Nat.le_of_ble_eq_true rfl) (fun b => rfl) ?_
  intro p e s m args below meth c D T b hC
  unfold f_X4_clear
  refine n_aload_n hC 0 rfl dX4_clear_0 ?_
  refine n_get hC clX4 h0 4 (.int (M.1 a0 4)) (by decide) rfl fl_X4_35 rfl dX4_clear_1 ?_
  refine n_istB_n hC rfl (fun v1 => [(1, .int v1), (0, .ref (b + a0))]) (by decide) (fun _ => rfl) dX4_clear_4 (fun v1 => ?_)
  refine n_aload_n hC 1 rfl dX4_clear_5 ?_
  refine n_iconst hC (0 : Int32) (by decide) dX4_clear_6 ?_
  refine n_putI hC clX4 h0 4 (by decide) rfl rfl rfl fl_X4_35 dX4_clear_7 (fun M2 => ?_)
  refine n_iload_n hC 0 rfl dX4_clear_10 ?_
  exact n_iret hC dX4_clear_11
def f_X4_comment (M : Me) (a0 : Nat) (y1 : Int64) (x3 : Int32) : Option (Int32 × Me) := if x3 < (0 : Int32) then some ((-3 : Int32), M) else if x3 ≤ (8 : Int32) then cal (f_X4_spread M y1 x3 (rf a0 3) (0 : Int32)) (fun _ M2 => bnd (sI M2 a0 5 x3) (fun M3 => some ((1 : Int32), M3))) else some ((-3 : Int32), M)
set_option maxHeartbeats 4000000 in
set_option maxRecDepth 100000 in
theorem c_X4_comment (l : Launch) (M : Me) (a0 : Nat) (y1 : Int64) (x3 : Int32) (h0 : kd a0 = 4) : CN l yX4_comment cX4_comment 4 (some .int) (k2_rm 2 48) eI (fun b => [.ref (b + a0), .long y1, .int x3]) M (f_X4_comment M a0 y1 x3) := by
  refine CN.of RX4 (fun b => [(0, .ref (b + a0)), (1, .long y1), (3, .int x3)]) (by decide) rfl (fun b => Nat.le_of_ble_eq_true rfl) (fun b => rfl) ?_
  intro p e s m args below meth c D T b hC
  unfold f_X4_comment
  refine n_iload_n hC 2 rfl dX4_comment_0 ?_
  refine n_if_lt hC 10 dX4_comment_1 (by decide) ?_ ?_
  · refine n_bipush hC (-3 : Int32) (by decide) dX4_comment_10 ?_
    exact n_iret hC dX4_comment_12
  refine n_iload_n hC 2 rfl dX4_comment_4 ?_
  refine n_bipush hC (8 : Int32) (by decide) dX4_comment_5 ?_
  refine n_icmp_le hC 13 dX4_comment_7 (by decide) ?_ ?_
  · refine n_lload_n hC 1 rfl dX4_comment_13 ?_
    refine n_iload_n hC 2 rfl dX4_comment_14 ?_
    refine n_aload_n hC 0 rfl dX4_comment_15 ?_
    refine n_get hC clX4 h0 3 (.ref (b + (rf a0 3))) (by decide) rfl fl_X4_31 rfl dX4_comment_16 ?_
    refine n_iconst hC (0 : Int32) (by decide) dX4_comment_19 ?_
    refine n_callSv (As := [.long y1, .int x3, .ref (b + (rf a0 3)), .int (0 : Int32)]) (rest := []) hC (c_X4_spread l M y1 x3 (rf a0 3) (0 : Int32) (kf_X4_3 h0)) my_X4_spread ml_X4_81 rfl rfl rfl (Nat.le_of_ble_eq_true rfl) ⟨by decide, by decide⟩ dX4_comment_20 (fun r1 M2 => ?_)
    refine n_aload_n hC 0 rfl dX4_comment_23 ?_
    refine n_iload_n hC 2 rfl dX4_comment_24 ?_
    refine n_putI hC clX4 h0 5 (by decide) rfl rfl rfl fl_X4_39 dX4_comment_25 (fun M3 => ?_)
    refine n_iconst hC (1 : Int32) (by decide) dX4_comment_28 ?_
    exact n_iret hC dX4_comment_29
  refine n_bipush hC (-3 : Int32) (by decide) dX4_comment_10 ?_
  exact n_iret hC dX4_comment_12
def g_X4_lacksData_2 (kx : Int32 → Me → Option (Int32 × Me)) (kb : Int32 × Me → Option (Int32 × Me)) (a0 : Nat) (x1 : Int32) (M : Me) : Option (Int32 × Me) := if (M.1 a0 4) ≤ x1 then kx x1 M else chk x1 (ln (rf a0 0)) (cal (f_X0_lacksData M (rf (rf a0 0) x1.toNatClampNeg)) (fun r2 M3 => if r2 = (0 : Int32) then bndV (x1 + (1 : Int32)) (fun v4 => kb (v4, M3)) else chZ (1 : Int32) (some ((1 : Int32), M3))))
set_option maxHeartbeats 4000000 in
set_option maxRecDepth 100000 in
theorem b_X4_lacksData_2_g {p : Program} {l : Launch} {e : Env} {s : State} {m : MethodId} {args : Array Value} {below : List Frame} {meth : Method} {c : Code} {D : va_G} {T : Nat → ClassId} {b : Nat} (hC : CX p s m args meth c cX4_lacksData 2 RX4 (some .boolean) D T) (a0 : Nat) (x1 : Int32) (h0 : kd a0 = 4) (kx : Int32 → Me → Option (Int32 × Me)) (hkx : ∀ (x1 : Int32) (M : Me), GN p l e (k2_rm 1 20) s m args below meth c D T b 2 eI 30 [] [] M (kx x1 M)) (kb : Int32 × Me → Option (Int32 × Me)) (hkb : ∀ z : Int32 × Me, GN p l e (k2_rm 1 20) s m args below meth c D T b 2 eI 2 [(0, .ref (b + a0)), (1, .int z.1)] [] z.2 (kb z)) (M : Me) : GN p l e (k2_rm 1 20) s m args below meth c D T b 2 eI 2 [(0, .ref (b + a0)), (1, .int x1)] [] M (g_X4_lacksData_2 kx kb a0 x1 M) := by
  unfold g_X4_lacksData_2
  refine n_iload_n hC 1 rfl dX4_lacksData_2 ?_
  refine n_aload_n hC 0 rfl dX4_lacksData_3 ?_
  refine n_get hC clX4 h0 4 (.int (M.1 a0 4)) (by decide) rfl fl_X4_35 rfl dX4_lacksData_4 ?_
  refine n_icmp_ge hC 30 dX4_lacksData_7 (by decide) ?_ ?_
  · exact GN.sub [] rfl (hkx x1 M)
  refine n_aload_n hC 0 rfl dX4_lacksData_10 ?_
  refine n_get hC clX4 h0 0 (.ref (b + (rf a0 0))) (by decide) rfl fl_X4_11 rfl dX4_lacksData_11 ?_
  refine n_iload_n hC 1 rfl dX4_lacksData_14 ?_
  refine n_aaldE hC (kf_X4_0 h0) dX4_lacksData_15 (fun g1 => ?_)
  refine n_callVi (As := []) (rest := []) (ke_9 (kf_X4_0 h0) g1) rfl (by decide) hC (c_X0_lacksData l M (rf (rf a0 0) x1.toNatClampNeg) (ke_9 (kf_X4_0 h0) g1)) my_X0_lacksData ml_X4_198 rfl rfl rfl (Nat.le_of_ble_eq_true rfl) ⟨by decide, by decide⟩ dX4_lacksData_16 (fun r2 M3 => ?_)
  refine n_if_eq hC 24 dX4_lacksData_19 (by decide) ?_ ?_
  · refine n_iincB hC (1 : Int32) (by decide) (fun v4 => [(1, .int v4), (0, .ref (b + a0))]) 1 rfl (by decide) (fun _ => rfl) dX4_lacksData_24 (fun v4 => ?_)
    refine n_goto hC (tgt := 2) (by decide) dX4_lacksData_27 ?_
    exact GN.sub [1, 0] rfl (hkb (v4, M3))
  refine n_iconst hC (1 : Int32) (by decide) dX4_lacksData_22 ?_
  exact n_zret hC dX4_lacksData_23
def l_X4_lacksData_2 (kx : Int32 → Me → Option (Int32 × Me)) (a0 : Nat) (x1 : Int32) (M : Me) : Option (Int32 × Me) := lp (fun kb z => g_X4_lacksData_2 kx kb a0 z.1 z.2) FU (x1, M)
set_option maxHeartbeats 4000000 in
set_option maxRecDepth 100000 in
theorem b_X4_lacksData_2 {p : Program} {l : Launch} {e : Env} {s : State} {m : MethodId} {args : Array Value} {below : List Frame} {meth : Method} {c : Code} {D : va_G} {T : Nat → ClassId} {b : Nat} (hC : CX p s m args meth c cX4_lacksData 2 RX4 (some .boolean) D T) (a0 : Nat) (x1 : Int32) (h0 : kd a0 = 4) (kx : Int32 → Me → Option (Int32 × Me)) (hkx : ∀ (x1 : Int32) (M : Me), GN p l e (k2_rm 1 20) s m args below meth c D T b 2 eI 30 [] [] M (kx x1 M)) (M : Me) : GN p l e (k2_rm 1 20) s m args below meth c D T b 2 eI 2 [(0, .ref (b + a0)), (1, .int x1)] [] M (l_X4_lacksData_2 kx a0 x1 M) := by
  exact n_loop (σ := Int32 × Me) (fun z => [(0, .ref (b + a0)), (1, .int z.1)]) (fun z => z.2) (fun kb hkb z => b_X4_lacksData_2_g hC a0 z.1 h0 kx hkx kb hkb z.2) FU (x1, M)
def f_X4_lacksData (M : Me) (a0 : Nat) : Option (Int32 × Me) := l_X4_lacksData_2 (fun v5 M6 => chZ (0 : Int32) (some ((0 : Int32), M6))) a0 (0 : Int32) M
set_option maxHeartbeats 4000000 in
set_option maxRecDepth 100000 in
theorem c_X4_lacksData (l : Launch) (M : Me) (a0 : Nat) (h0 : kd a0 = 4) : CN l yX4_lacksData cX4_lacksData 2 (some .boolean) (k2_rm 1 20) eI (fun b => [.ref (b + a0)]) M (f_X4_lacksData M a0) := by
  refine CN.of RX4 (fun b => [(0, .ref (b + a0))]) (by decide) rfl (fun b => Nat.le_of_ble_eq_true rfl) (fun b => rfl) ?_
  intro p e s m args below meth c D T b hC
  unfold f_X4_lacksData
  refine n_iconst hC (0 : Int32) (by decide) dX4_lacksData_0 ?_
  refine n_istore_n hC rfl [(1, .int (0 : Int32)), (0, .ref (b + a0))] (by decide) rfl dX4_lacksData_1 ?_
  refine GN.sub [1, 0] rfl (b_X4_lacksData_2 hC a0 (0 : Int32) h0 _ (fun v5 M6 => ?_) M)
  refine n_iconst hC (0 : Int32) (by decide) dX4_lacksData_30 ?_
  exact n_zret hC dX4_lacksData_31
def j_X4_lengthFrom_47 (kx : Int32 → Int32 → Me → Option (Int32 × Me)) (kb : Int32 × Int32 × Me → Option (Int32 × Me)) (a0 : Nat) (x1 : Int32) (x2 : Int32) (x3 : Int32) (M : Me) : Option (Int32 × Me) := bndV (x3 + (1 : Int32)) (fun v6 => kb (x2, v6, M))
set_option maxHeartbeats 4000000 in
set_option maxRecDepth 100000 in
theorem b_X4_lengthFrom_47 {p : Program} {l : Launch} {e : Env} {s : State} {m : MethodId} {args : Array Value} {below : List Frame} {meth : Method} {c : Code} {D : va_G} {T : Nat → ClassId} {b : Nat} (hC : CX p s m args meth c cX4_lengthFrom 4 RX4 (some .int) D T) (a0 : Nat) (x1 : Int32) (x2 : Int32) (x3 : Int32) (h0 : kd a0 = 4) (kx : Int32 → Int32 → Me → Option (Int32 × Me)) (hkx : ∀ (x2 : Int32) (x3 : Int32) (M : Me), GN p l e (k2_rm 2 43) s m args below meth c D T b 4 eI 53 [(2, .int x2)] [] M (kx x2 x3 M)) (kb : Int32 × Int32 × Me → Option (Int32 × Me)) (hkb : ∀ z : Int32 × Int32 × Me, GN p l e (k2_rm 2 43) s m args below meth c D T b 4 eI 10 [(0, .ref (b + a0)), (1, .int x1), (2, .int z.1), (3, .int z.2.1)] [] z.2.2 (kb z)) (M : Me) : GN p l e (k2_rm 2 43) s m args below meth c D T b 4 eI 47 [(0, .ref (b + a0)), (1, .int x1), (2, .int x2), (3, .int x3)] [] M (j_X4_lengthFrom_47 kx kb a0 x1 x2 x3 M) := by
  unfold j_X4_lengthFrom_47
  refine n_iincB hC (1 : Int32) (by decide) (fun v6 => [(3, .int v6), (0, .ref (b + a0)), (1, .int x1), (2, .int x2)]) 3 rfl (by decide) (fun _ => rfl) dX4_lengthFrom_47 (fun v6 => ?_)
  refine n_goto hC (tgt := 10) (by decide) dX4_lengthFrom_50 ?_
  exact GN.sub [1, 2, 3, 0] rfl (hkb (x2, v6, M))
def g_X4_lengthFrom_10 (kx : Int32 → Int32 → Me → Option (Int32 × Me)) (kb : Int32 × Int32 × Me → Option (Int32 × Me)) (a0 : Nat) (x1 : Int32) (x2 : Int32) (x3 : Int32) (M : Me) : Option (Int32 × Me) := if (M.1 a0 4) ≤ x3 then kx x2 x3 M else chk x3 (ln (rf a0 0)) (cal (f_X0_centreLength M (rf (rf a0 0) x3.toNatClampNeg)) (fun r3 M4 => bndV (x2 + r3) (fun v5 => if x3 < x1 then j_X4_lengthFrom_47 kx kb a0 x1 v5 x3 M4 else chk x3 (ln (rf a0 0)) (cal (f_X0_localLength M4 (rf (rf a0 0) x3.toNatClampNeg)) (fun r8 M9 => bndV (v5 + r8) (fun v10 => j_X4_lengthFrom_47 kx kb a0 x1 v10 x3 M9))))))
set_option maxHeartbeats 4000000 in
set_option maxRecDepth 100000 in
theorem b_X4_lengthFrom_10_g {p : Program} {l : Launch} {e : Env} {s : State} {m : MethodId} {args : Array Value} {below : List Frame} {meth : Method} {c : Code} {D : va_G} {T : Nat → ClassId} {b : Nat} (hC : CX p s m args meth c cX4_lengthFrom 4 RX4 (some .int) D T) (a0 : Nat) (x1 : Int32) (x2 : Int32) (x3 : Int32) (h0 : kd a0 = 4) (kx : Int32 → Int32 → Me → Option (Int32 × Me)) (hkx : ∀ (x2 : Int32) (x3 : Int32) (M : Me), GN p l e (k2_rm 2 43) s m args below meth c D T b 4 eI 53 [(2, .int x2)] [] M (kx x2 x3 M)) (kb : Int32 × Int32 × Me → Option (Int32 × Me)) (hkb : ∀ z : Int32 × Int32 × Me, GN p l e (k2_rm 2 43) s m args below meth c D T b 4 eI 10 [(0, .ref (b + a0)), (1, .int x1), (2, .int z.1), (3, .int z.2.1)] [] z.2.2 (kb z)) (M : Me) : GN p l e (k2_rm 2 43) s m args below meth c D T b 4 eI 10 [(0, .ref (b + a0)), (1, .int x1), (2, .int x2), (3, .int x3)] [] M (g_X4_lengthFrom_10 kx kb a0 x1 x2 x3 M) := by
  unfold g_X4_lengthFrom_10
  refine n_iload_n hC 3 rfl dX4_lengthFrom_10 ?_
  refine n_aload_n hC 0 rfl dX4_lengthFrom_11 ?_
  refine n_get hC clX4 h0 4 (.int (M.1 a0 4)) (by decide) rfl fl_X4_35 rfl dX4_lengthFrom_12 ?_
  refine n_icmp_ge hC 53 dX4_lengthFrom_15 (by decide) ?_ ?_
  · exact GN.sub [2] rfl (hkx x2 x3 M)
  refine n_iload_n hC 2 rfl dX4_lengthFrom_18 ?_
  refine n_aload_n hC 0 rfl dX4_lengthFrom_19 ?_
  refine n_get hC clX4 h0 0 (.ref (b + (rf a0 0))) (by decide) rfl fl_X4_11 rfl dX4_lengthFrom_20 ?_
  refine n_iload_n hC 3 rfl dX4_lengthFrom_23 ?_
  refine n_aaldE hC (kf_X4_0 h0) dX4_lengthFrom_24 (fun g2 => ?_)
  refine n_callVi (As := []) (rest := [.int x2]) (ke_9 (kf_X4_0 h0) g2) rfl (by decide) hC (c_X0_centreLength l M (rf (rf a0 0) x3.toNatClampNeg) (ke_9 (kf_X4_0 h0) g2)) my_X0_centreLength ml_X4_219 rfl rfl rfl (Nat.le_of_ble_eq_true rfl) ⟨by decide, by decide⟩ dX4_lengthFrom_25 (fun r3 M4 => ?_)
  refine n_iadd hC dX4_lengthFrom_28 ?_
  refine n_istB_n hC rfl (fun v5 => [(2, .int v5), (0, .ref (b + a0)), (1, .int x1), (3, .int x3)]) (by decide) (fun _ => rfl) dX4_lengthFrom_29 (fun v5 => ?_)
  refine n_iload_n hC 3 rfl dX4_lengthFrom_30 ?_
  refine n_iload_n hC 2 rfl dX4_lengthFrom_31 ?_
  refine n_icmp_lt hC 47 dX4_lengthFrom_32 (by decide) ?_ ?_
  · exact GN.sub [1, 2, 0, 3] rfl (b_X4_lengthFrom_47 hC a0 x1 v5 x3 h0 kx hkx kb hkb M4)
  refine n_iload_n hC 0 rfl dX4_lengthFrom_35 ?_
  refine n_aload_n hC 1 rfl dX4_lengthFrom_36 ?_
  refine n_get hC clX4 h0 0 (.ref (b + (rf a0 0))) (by decide) rfl fl_X4_11 rfl dX4_lengthFrom_37 ?_
  refine n_iload_n hC 3 rfl dX4_lengthFrom_40 ?_
  refine n_aaldE hC (kf_X4_0 h0) dX4_lengthFrom_41 (fun g7 => ?_)
  refine n_callVi (As := []) (rest := [.int v5]) (ke_9 (kf_X4_0 h0) g7) rfl (by decide) hC (c_X0_localLength l M4 (rf (rf a0 0) x3.toNatClampNeg) (ke_9 (kf_X4_0 h0) g7)) my_X0_localLength ml_X4_222 rfl rfl rfl (Nat.le_of_ble_eq_true rfl) ⟨by decide, by decide⟩ dX4_lengthFrom_42 (fun r8 M9 => ?_)
  refine n_iadd hC dX4_lengthFrom_45 ?_
  refine n_istB_n hC rfl (fun v10 => [(2, .int v10), (0, .ref (b + a0)), (1, .int x1), (3, .int x3)]) (by decide) (fun _ => rfl) dX4_lengthFrom_46 (fun v10 => ?_)
  exact GN.sub [1, 2, 0, 3] rfl (b_X4_lengthFrom_47 hC a0 x1 v10 x3 h0 kx hkx kb hkb M9)
def l_X4_lengthFrom_10 (kx : Int32 → Int32 → Me → Option (Int32 × Me)) (a0 : Nat) (x1 : Int32) (x2 : Int32) (x3 : Int32) (M : Me) : Option (Int32 × Me) := lp (fun kb z => g_X4_lengthFrom_10 kx kb a0 x1 z.1 z.2.1 z.2.2) FU (x2, x3, M)
set_option maxHeartbeats 4000000 in
set_option maxRecDepth 100000 in
theorem b_X4_lengthFrom_10 {p : Program} {l : Launch} {e : Env} {s : State} {m : MethodId} {args : Array Value} {below : List Frame} {meth : Method} {c : Code} {D : va_G} {T : Nat → ClassId} {b : Nat} (hC : CX p s m args meth c cX4_lengthFrom 4 RX4 (some .int) D T) (a0 : Nat) (x1 : Int32) (x2 : Int32) (x3 : Int32) (h0 : kd a0 = 4) (kx : Int32 → Int32 → Me → Option (Int32 × Me)) (hkx : ∀ (x2 : Int32) (x3 : Int32) (M : Me), GN p l e (k2_rm 2 43) s m args below meth c D T b 4 eI 53 [(2, .int x2)] [] M (kx x2 x3 M)) (M : Me) : GN p l e (k2_rm 2 43) s m args below meth c D T b 4 eI 10 [(0, .ref (b + a0)), (1, .int x1), (2, .int x2), (3, .int x3)] [] M (l_X4_lengthFrom_10 kx a0 x1 x2 x3 M) := by
  exact n_loop (σ := Int32 × Int32 × Me) (fun z => [(0, .ref (b + a0)), (1, .int x1), (2, .int z.1), (3, .int z.2.1)]) (fun z => z.2.2) (fun kb hkb z => b_X4_lengthFrom_10_g hC a0 x1 z.1 z.2.1 h0 kx hkx kb hkb z.2.2) FU (x2, x3, M)
def f_X4_lengthFrom (M : Me) (a0 : Nat) (x1 : Int32) : Option (Int32 × Me) := bndV ((22 : Int32) + (M.1 a0 5)) (fun v1 => l_X4_lengthFrom_10 (fun v11 v12 M13 => some (v11, M13)) a0 x1 v1 (0 : Int32) M)
set_option maxHeartbeats 4000000 in
set_option maxRecDepth 100000 in
theorem c_X4_lengthFrom (l : Launch) (M : Me) (a0 : Nat) (x1 : Int32) (h0 : kd a0 = 4) : CN l yX4_lengthFrom cX4_lengthFrom 4 (some .int) (k2_rm 2 43) eI (fun b => [.ref (b + a0), .int x1]) M (f_X4_lengthFrom M a0 x1) := by
  refine CN.of RX4 (fun b => [(0, .ref (b + a0)), (1, .int x1)]) (by decide) rfl (fun b => Nat.le_of_ble_eq_true rfl) (fun b => rfl) ?_
  intro p e s m args below meth c D T b hC
  unfold f_X4_lengthFrom
  refine n_bipush hC (22 : Int32) (by decide) dX4_lengthFrom_0 ?_
  refine n_aload_n hC 0 rfl dX4_lengthFrom_2 ?_
  refine n_get hC clX4 h0 5 (.int (M.1 a0 5)) (by decide) rfl fl_X4_39 rfl dX4_lengthFrom_3 ?_
  refine n_iadd hC dX4_lengthFrom_6 ?_
  refine n_istB_n hC rfl (fun v1 => [(2, .int v1), (0, .ref (b + a0)), (1, .int x1)]) (by decide) (fun _ => rfl) dX4_lengthFrom_7 (fun v1 => ?_)
  refine n_iconst hC (0 : Int32) (by decide) dX4_lengthFrom_8 ?_
  refine n_istore_n hC rfl [(3, .int (0 : Int32)), (2, .int v1), (0, .ref (b + a0)), (1, .int x1)] (by decide) rfl dX4_lengthFrom_9 ?_
  refine GN.sub [2, 3, 1, 0] rfl (b_X4_lengthFrom_10 hC a0 x1 v1 (0 : Int32) h0 _ (fun v11 v12 M13 => ?_) M)
  refine n_iload_n hC 0 rfl dX4_lengthFrom_53 ?_
  exact n_iret hC dX4_lengthFrom_54
def f_X4_putEnd (M : Me) (a0 : Nat) (x1 : Int32) : Option (Unit × Me) := bndV ((M.1 (rf a0 1) 1) - x1) (fun v1 => cal (f_X3_putNumber M (rf a0 1) (101010256 : Int64) (4 : Int32)) (fun _ M3 => cal (f_X3_putNumber M3 (rf a0 1) (0 : Int64) (4 : Int32)) (fun _ M5 => cal (f_X3_putNumber M5 (rf a0 1) (((M5.1 a0 4)).toInt64) (2 : Int32)) (fun _ M7 => cal (f_X3_putNumber M7 (rf a0 1) (((M7.1 a0 4)).toInt64) (2 : Int32)) (fun _ M9 => cal (f_X3_putNumber M9 (rf a0 1) v1.toInt64 (4 : Int32)) (fun _ M11 => cal (f_X3_putNumber M11 (rf a0 1) x1.toInt64 (4 : Int32)) (fun _ M13 => cal (f_X3_putNumber M13 (rf a0 1) (((M13.1 a0 5)).toInt64) (2 : Int32)) (fun _ M15 => cal (f_X3_putCells M15 (rf a0 1) (rf a0 3) (0 : Int32) (M15.1 a0 5)) (fun _ M17 => some ((), M17))))))))))
set_option maxHeartbeats 4000000 in
set_option maxRecDepth 100000 in
theorem c_X4_putEnd (l : Launch) (M : Me) (a0 : Nat) (x1 : Int32) (h0 : kd a0 = 4) : CN l yX4_putEnd cX4_putEnd 3 none (k2_rm 2 45) eV (fun b => [.ref (b + a0), .int x1]) M (f_X4_putEnd M a0 x1) := by
  refine CN.of RX4 (fun b => [(0, .ref (b + a0)), (1, .int x1)]) (by decide) rfl (fun b => Nat.le_of_ble_eq_true rfl) (fun b => rfl) ?_
  intro p e s m args below meth c D T b hC
  unfold f_X4_putEnd
  refine n_aload_n hC 0 rfl dX4_putEnd_0 ?_
  refine n_get hC clX4 h0 1 (.ref (b + (rf a0 1))) (by decide) rfl fl_X4_18 rfl dX4_putEnd_1 ?_
  refine n_get hC clX3 (kf_X4_1 h0) 1 (.int (M.1 (rf a0 1) 1)) (by decide) rfl fl_X4_130 rfl dX4_putEnd_4 ?_
  refine n_iload_n hC 1 rfl dX4_putEnd_7 ?_
  refine n_isub hC dX4_putEnd_8 ?_
  refine n_istB_n hC rfl (fun v1 => [(2, .int v1), (0, .ref (b + a0)), (1, .int x1)]) (by decide) (fun _ => rfl) dX4_putEnd_9 (fun v1 => ?_)
  refine n_aload_n hC 1 rfl dX4_putEnd_10 ?_
  refine n_get hC clX4 h0 1 (.ref (b + (rf a0 1))) (by decide) rfl fl_X4_18 rfl dX4_putEnd_11 ?_
  refine n_ldc2 hC (101010256 : Int64) kc_X4_235 dX4_putEnd_14 ?_
  refine n_iconst hC (4 : Int32) (by decide) dX4_putEnd_17 ?_
  refine n_callVv (As := [.long (101010256 : Int64), .int (4 : Int32)]) (rest := []) (kf_X4_1 h0) rfl (by decide) hC (c_X3_putNumber l M (rf a0 1) (101010256 : Int64) (4 : Int32) (kf_X4_1 h0)) my_X3_putNumber ml_X4_237 rfl rfl rfl (Nat.le_of_ble_eq_true rfl) ⟨by decide, by decide⟩ dX4_putEnd_18 (fun r2 M3 => ?_)
  refine n_aload_n hC 1 rfl dX4_putEnd_21 ?_
  refine n_get hC clX4 h0 1 (.ref (b + (rf a0 1))) (by decide) rfl fl_X4_18 rfl dX4_putEnd_22 ?_
  refine n_lconst hC (0 : Int64) (by decide) dX4_putEnd_25 ?_
  refine n_iconst hC (4 : Int32) (by decide) dX4_putEnd_26 ?_
  refine n_callVv (As := [.long (0 : Int64), .int (4 : Int32)]) (rest := []) (kf_X4_1 h0) rfl (by decide) hC (c_X3_putNumber l M3 (rf a0 1) (0 : Int64) (4 : Int32) (kf_X4_1 h0)) my_X3_putNumber ml_X4_237 rfl rfl rfl (Nat.le_of_ble_eq_true rfl) ⟨by decide, by decide⟩ dX4_putEnd_27 (fun r4 M5 => ?_)
  refine n_aload_n hC 1 rfl dX4_putEnd_30 ?_
  refine n_get hC clX4 h0 1 (.ref (b + (rf a0 1))) (by decide) rfl fl_X4_18 rfl dX4_putEnd_31 ?_
  refine n_aload_n hC 1 rfl dX4_putEnd_34 ?_
  refine n_get hC clX4 h0 4 (.int (M5.1 a0 4)) (by decide) rfl fl_X4_35 rfl dX4_putEnd_35 ?_
  refine n_i2l hC dX4_putEnd_38 ?_
  refine n_iconst hC (2 : Int32) (by decide) dX4_putEnd_39 ?_
  refine n_callVv (As := [.long ((M5.1 a0 4)).toInt64, .int (2 : Int32)]) (rest := []) (kf_X4_1 h0) rfl (by decide) hC (c_X3_putNumber l M5 (rf a0 1) (((M5.1 a0 4)).toInt64) (2 : Int32) (kf_X4_1 h0)) my_X3_putNumber ml_X4_237 rfl rfl rfl (Nat.le_of_ble_eq_true rfl) ⟨by decide, by decide⟩ dX4_putEnd_40 (fun r6 M7 => ?_)
  refine n_aload_n hC 1 rfl dX4_putEnd_43 ?_
  refine n_get hC clX4 h0 1 (.ref (b + (rf a0 1))) (by decide) rfl fl_X4_18 rfl dX4_putEnd_44 ?_
  refine n_aload_n hC 1 rfl dX4_putEnd_47 ?_
  refine n_get hC clX4 h0 4 (.int (M7.1 a0 4)) (by decide) rfl fl_X4_35 rfl dX4_putEnd_48 ?_
  refine n_i2l hC dX4_putEnd_51 ?_
  refine n_iconst hC (2 : Int32) (by decide) dX4_putEnd_52 ?_
  refine n_callVv (As := [.long ((M7.1 a0 4)).toInt64, .int (2 : Int32)]) (rest := []) (kf_X4_1 h0) rfl (by decide) hC (c_X3_putNumber l M7 (rf a0 1) (((M7.1 a0 4)).toInt64) (2 : Int32) (kf_X4_1 h0)) my_X3_putNumber ml_X4_237 rfl rfl rfl (Nat.le_of_ble_eq_true rfl) ⟨by decide, by decide⟩ dX4_putEnd_53 (fun r8 M9 => ?_)
  refine n_aload_n hC 1 rfl dX4_putEnd_56 ?_
  refine n_get hC clX4 h0 1 (.ref (b + (rf a0 1))) (by decide) rfl fl_X4_18 rfl dX4_putEnd_57 ?_
  refine n_iload_n hC 0 rfl dX4_putEnd_60 ?_
  refine n_i2l hC dX4_putEnd_61 ?_
  refine n_iconst hC (4 : Int32) (by decide) dX4_putEnd_62 ?_
  refine n_callVv (As := [.long v1.toInt64, .int (4 : Int32)]) (rest := []) (kf_X4_1 h0) rfl (by decide) hC (c_X3_putNumber l M9 (rf a0 1) v1.toInt64 (4 : Int32) (kf_X4_1 h0)) my_X3_putNumber ml_X4_237 rfl rfl rfl (Nat.le_of_ble_eq_true rfl) ⟨by decide, by decide⟩ dX4_putEnd_63 (fun r10 M11 => ?_)
  refine n_aload_n hC 1 rfl dX4_putEnd_66 ?_
  refine n_get hC clX4 h0 1 (.ref (b + (rf a0 1))) (by decide) rfl fl_X4_18 rfl dX4_putEnd_67 ?_
  refine n_iload_n hC 2 rfl dX4_putEnd_70 ?_
  refine n_i2l hC dX4_putEnd_71 ?_
  refine n_iconst hC (4 : Int32) (by decide) dX4_putEnd_72 ?_
  refine n_callVv (As := [.long x1.toInt64, .int (4 : Int32)]) (rest := []) (kf_X4_1 h0) rfl (by decide) hC (c_X3_putNumber l M11 (rf a0 1) x1.toInt64 (4 : Int32) (kf_X4_1 h0)) my_X3_putNumber ml_X4_237 rfl rfl rfl (Nat.le_of_ble_eq_true rfl) ⟨by decide, by decide⟩ dX4_putEnd_73 (fun r12 M13 => ?_)
  refine n_aload_n hC 1 rfl dX4_putEnd_76 ?_
  refine n_get hC clX4 h0 1 (.ref (b + (rf a0 1))) (by decide) rfl fl_X4_18 rfl dX4_putEnd_77 ?_
  refine n_aload_n hC 1 rfl dX4_putEnd_80 ?_
  refine n_get hC clX4 h0 5 (.int (M13.1 a0 5)) (by decide) rfl fl_X4_39 rfl dX4_putEnd_81 ?_
  refine n_i2l hC dX4_putEnd_84 ?_
  refine n_iconst hC (2 : Int32) (by decide) dX4_putEnd_85 ?_
  refine n_callVv (As := [.long ((M13.1 a0 5)).toInt64, .int (2 : Int32)]) (rest := []) (kf_X4_1 h0) rfl (by decide) hC (c_X3_putNumber l M13 (rf a0 1) (((M13.1 a0 5)).toInt64) (2 : Int32) (kf_X4_1 h0)) my_X3_putNumber ml_X4_237 rfl rfl rfl (Nat.le_of_ble_eq_true rfl) ⟨by decide, by decide⟩ dX4_putEnd_86 (fun r14 M15 => ?_)
  refine n_aload_n hC 1 rfl dX4_putEnd_89 ?_
  refine n_get hC clX4 h0 1 (.ref (b + (rf a0 1))) (by decide) rfl fl_X4_18 rfl dX4_putEnd_90 ?_
  refine n_aload_n hC 1 rfl dX4_putEnd_93 ?_
  refine n_get hC clX4 h0 3 (.ref (b + (rf a0 3))) (by decide) rfl fl_X4_31 rfl dX4_putEnd_94 ?_
  refine n_iconst hC (0 : Int32) (by decide) dX4_putEnd_97 ?_
  refine n_aload_n hC 1 rfl dX4_putEnd_98 ?_
  refine n_get hC clX4 h0 5 (.int (M15.1 a0 5)) (by decide) rfl fl_X4_39 rfl dX4_putEnd_99 ?_
  refine n_callVv (As := [.ref (b + (rf a0 3)), .int (0 : Int32), .int (M15.1 a0 5)]) (rest := []) (kf_X4_1 h0) rfl (by decide) hC (c_X3_putCells l M15 (rf a0 1) (rf a0 3) (0 : Int32) (M15.1 a0 5) (kf_X4_1 h0) (kf_X4_3 h0)) my_X3_putCells ml_X4_240 rfl rfl rfl (Nat.le_of_ble_eq_true rfl) ⟨by decide, by decide⟩ dX4_putEnd_102 (fun r16 M17 => ?_)
  exact n_vret hC dX4_putEnd_105
def g_X4_putFrom_2 (kx : Int32 → Me → Option (Int32 × Me)) (kb : Int32 × Me → Option (Int32 × Me)) (a0 : Nat) (x2 : Int32) (M : Me) : Option (Int32 × Me) := if (M.1 a0 4) ≤ x2 then kx x2 M else chk x2 (ln (rf a0 0)) (cal (f_X0_putLocal M (rf (rf a0 0) x2.toNatClampNeg) (rf a0 1)) (fun _ M3 => bndV (x2 + (1 : Int32)) (fun v4 => kb (v4, M3))))
set_option maxHeartbeats 4000000 in
set_option maxRecDepth 100000 in
theorem b_X4_putFrom_2_g {p : Program} {l : Launch} {e : Env} {s : State} {m : MethodId} {args : Array Value} {below : List Frame} {meth : Method} {c : Code} {D : va_G} {T : Nat → ClassId} {b : Nat} (hC : CX p s m args meth c cX4_putFrom 4 RX4 (some .int) D T) (a0 : Nat) (x2 : Int32) (h0 : kd a0 = 4) (kx : Int32 → Me → Option (Int32 × Me)) (hkx : ∀ (x2 : Int32) (M : Me), GN p l e (k2_rm 4 88) s m args below meth c D T b 4 eI 29 [(0, .ref (b + a0))] [] M (kx x2 M)) (kb : Int32 × Me → Option (Int32 × Me)) (hkb : ∀ z : Int32 × Me, GN p l e (k2_rm 4 88) s m args below meth c D T b 4 eI 2 [(0, .ref (b + a0)), (2, .int z.1)] [] z.2 (kb z)) (M : Me) : GN p l e (k2_rm 4 88) s m args below meth c D T b 4 eI 2 [(0, .ref (b + a0)), (2, .int x2)] [] M (g_X4_putFrom_2 kx kb a0 x2 M) := by
  unfold g_X4_putFrom_2
  refine n_iload_n hC 1 rfl dX4_putFrom_2 ?_
  refine n_aload_n hC 0 rfl dX4_putFrom_3 ?_
  refine n_get hC clX4 h0 4 (.int (M.1 a0 4)) (by decide) rfl fl_X4_35 rfl dX4_putFrom_4 ?_
  refine n_icmp_ge hC 29 dX4_putFrom_7 (by decide) ?_ ?_
  · exact GN.sub [0] rfl (hkx x2 M)
  refine n_aload_n hC 0 rfl dX4_putFrom_10 ?_
  refine n_get hC clX4 h0 0 (.ref (b + (rf a0 0))) (by decide) rfl fl_X4_11 rfl dX4_putFrom_11 ?_
  refine n_iload_n hC 1 rfl dX4_putFrom_14 ?_
  refine n_aaldE hC (kf_X4_0 h0) dX4_putFrom_15 (fun g1 => ?_)
  refine n_aload_n hC 0 rfl dX4_putFrom_16 ?_
  refine n_get hC clX4 h0 1 (.ref (b + (rf a0 1))) (by decide) rfl fl_X4_18 rfl dX4_putFrom_17 ?_
  refine n_callVv (As := [.ref (b + (rf a0 1))]) (rest := []) (ke_9 (kf_X4_0 h0) g1) rfl (by decide) hC (c_X0_putLocal l M (rf (rf a0 0) x2.toNatClampNeg) (rf a0 1) (ke_9 (kf_X4_0 h0) g1) (kf_X4_1 h0)) my_X0_putLocal ml_X4_225 rfl rfl rfl (Nat.le_of_ble_eq_true rfl) ⟨by decide, by decide⟩ dX4_putFrom_20 (fun r2 M3 => ?_)
  refine n_iincB hC (1 : Int32) (by decide) (fun v4 => [(2, .int v4), (0, .ref (b + a0))]) 1 rfl (by decide) (fun _ => rfl) dX4_putFrom_23 (fun v4 => ?_)
  refine n_goto hC (tgt := 2) (by decide) dX4_putFrom_26 ?_
  exact GN.sub [1, 0] rfl (hkb (v4, M3))
def l_X4_putFrom_2 (kx : Int32 → Me → Option (Int32 × Me)) (a0 : Nat) (x2 : Int32) (M : Me) : Option (Int32 × Me) := lp (fun kb z => g_X4_putFrom_2 kx kb a0 z.1 z.2) FU (x2, M)
set_option maxHeartbeats 4000000 in
set_option maxRecDepth 100000 in
theorem b_X4_putFrom_2 {p : Program} {l : Launch} {e : Env} {s : State} {m : MethodId} {args : Array Value} {below : List Frame} {meth : Method} {c : Code} {D : va_G} {T : Nat → ClassId} {b : Nat} (hC : CX p s m args meth c cX4_putFrom 4 RX4 (some .int) D T) (a0 : Nat) (x2 : Int32) (h0 : kd a0 = 4) (kx : Int32 → Me → Option (Int32 × Me)) (hkx : ∀ (x2 : Int32) (M : Me), GN p l e (k2_rm 4 88) s m args below meth c D T b 4 eI 29 [(0, .ref (b + a0))] [] M (kx x2 M)) (M : Me) : GN p l e (k2_rm 4 88) s m args below meth c D T b 4 eI 2 [(0, .ref (b + a0)), (2, .int x2)] [] M (l_X4_putFrom_2 kx a0 x2 M) := by
  exact n_loop (σ := Int32 × Me) (fun z => [(0, .ref (b + a0)), (2, .int z.1)]) (fun z => z.2) (fun kb hkb z => b_X4_putFrom_2_g hC a0 z.1 h0 kx hkx kb hkb z.2) FU (x2, M)
def g_X4_putFrom_39 (kx : Int32 → Me → Option (Int32 × Me)) (kb : Int32 × Me → Option (Int32 × Me)) (a0 : Nat) (x2 : Int32) (x3 : Int32) (M : Me) : Option (Int32 × Me) := if (M.1 a0 4) ≤ x3 then kx x3 M else chk x3 (ln (rf a0 0)) (cal (f_X0_putCentre M (rf (rf a0 0) x3.toNatClampNeg) (rf a0 1)) (fun _ M10 => bndV (x3 + (1 : Int32)) (fun v11 => kb (v11, M10))))
set_option maxHeartbeats 4000000 in
set_option maxRecDepth 100000 in
theorem b_X4_putFrom_39_g {p : Program} {l : Launch} {e : Env} {s : State} {m : MethodId} {args : Array Value} {below : List Frame} {meth : Method} {c : Code} {D : va_G} {T : Nat → ClassId} {b : Nat} (hC : CX p s m args meth c cX4_putFrom 4 RX4 (some .int) D T) (a0 : Nat) (x2 : Int32) (x3 : Int32) (h0 : kd a0 = 4) (kx : Int32 → Me → Option (Int32 × Me)) (hkx : ∀ (x3 : Int32) (M : Me), GN p l e (k2_rm 4 88) s m args below meth c D T b 4 eI 66 [(0, .ref (b + a0)), (2, .int x2)] [] M (kx x3 M)) (kb : Int32 × Me → Option (Int32 × Me)) (hkb : ∀ z : Int32 × Me, GN p l e (k2_rm 4 88) s m args below meth c D T b 4 eI 39 [(0, .ref (b + a0)), (2, .int x2), (3, .int z.1)] [] z.2 (kb z)) (M : Me) : GN p l e (k2_rm 4 88) s m args below meth c D T b 4 eI 39 [(0, .ref (b + a0)), (2, .int x2), (3, .int x3)] [] M (g_X4_putFrom_39 kx kb a0 x2 x3 M) := by
  unfold g_X4_putFrom_39
  refine n_iload_n hC 2 rfl dX4_putFrom_39 ?_
  refine n_aload_n hC 0 rfl dX4_putFrom_40 ?_
  refine n_get hC clX4 h0 4 (.int (M.1 a0 4)) (by decide) rfl fl_X4_35 rfl dX4_putFrom_41 ?_
  refine n_icmp_ge hC 66 dX4_putFrom_44 (by decide) ?_ ?_
  · exact GN.sub [0, 1] rfl (hkx x3 M)
  refine n_aload_n hC 0 rfl dX4_putFrom_47 ?_
  refine n_get hC clX4 h0 0 (.ref (b + (rf a0 0))) (by decide) rfl fl_X4_11 rfl dX4_putFrom_48 ?_
  refine n_iload_n hC 2 rfl dX4_putFrom_51 ?_
  refine n_aaldE hC (kf_X4_0 h0) dX4_putFrom_52 (fun g8 => ?_)
  refine n_aload_n hC 0 rfl dX4_putFrom_53 ?_
  refine n_get hC clX4 h0 1 (.ref (b + (rf a0 1))) (by decide) rfl fl_X4_18 rfl dX4_putFrom_54 ?_
  refine n_callVv (As := [.ref (b + (rf a0 1))]) (rest := []) (ke_9 (kf_X4_0 h0) g8) rfl (by decide) hC (c_X0_putCentre l M (rf (rf a0 0) x3.toNatClampNeg) (rf a0 1) (ke_9 (kf_X4_0 h0) g8) (kf_X4_1 h0)) my_X0_putCentre ml_X4_228 rfl rfl rfl (Nat.le_of_ble_eq_true rfl) ⟨by decide, by decide⟩ dX4_putFrom_57 (fun r9 M10 => ?_)
  refine n_iincB hC (1 : Int32) (by decide) (fun v11 => [(3, .int v11), (0, .ref (b + a0)), (2, .int x2)]) 2 rfl (by decide) (fun _ => rfl) dX4_putFrom_60 (fun v11 => ?_)
  refine n_goto hC (tgt := 39) (by decide) dX4_putFrom_63 ?_
  exact GN.sub [1, 2, 0] rfl (hkb (v11, M10))
def l_X4_putFrom_39 (kx : Int32 → Me → Option (Int32 × Me)) (a0 : Nat) (x2 : Int32) (x3 : Int32) (M : Me) : Option (Int32 × Me) := lp (fun kb z => g_X4_putFrom_39 kx kb a0 x2 z.1 z.2) FU (x3, M)
set_option maxHeartbeats 4000000 in
set_option maxRecDepth 100000 in
theorem b_X4_putFrom_39 {p : Program} {l : Launch} {e : Env} {s : State} {m : MethodId} {args : Array Value} {below : List Frame} {meth : Method} {c : Code} {D : va_G} {T : Nat → ClassId} {b : Nat} (hC : CX p s m args meth c cX4_putFrom 4 RX4 (some .int) D T) (a0 : Nat) (x2 : Int32) (x3 : Int32) (h0 : kd a0 = 4) (kx : Int32 → Me → Option (Int32 × Me)) (hkx : ∀ (x3 : Int32) (M : Me), GN p l e (k2_rm 4 88) s m args below meth c D T b 4 eI 66 [(0, .ref (b + a0)), (2, .int x2)] [] M (kx x3 M)) (M : Me) : GN p l e (k2_rm 4 88) s m args below meth c D T b 4 eI 39 [(0, .ref (b + a0)), (2, .int x2), (3, .int x3)] [] M (l_X4_putFrom_39 kx a0 x2 x3 M) := by
  exact n_loop (σ := Int32 × Me) (fun z => [(0, .ref (b + a0)), (2, .int x2), (3, .int z.1)]) (fun z => z.2) (fun kb hkb z => b_X4_putFrom_39_g hC a0 x2 z.1 h0 kx hkx kb hkb z.2) FU (x3, M)
def f_X4_putFrom (M : Me) (a0 : Nat) (x1 : Int32) : Option (Int32 × Me) := l_X4_putFrom_2 (fun v5 M6 => bndV (M6.1 (rf a0 1) 1) (fun v7 => l_X4_putFrom_39 (fun v12 M13 => cal (f_X4_putEnd M13 a0 v7) (fun _ M15 => some ((M15.1 (rf a0 1) 1), M15))) a0 v7 (0 : Int32) M6)) a0 x1 M
set_option maxHeartbeats 4000000 in
set_option maxRecDepth 100000 in
theorem c_X4_putFrom (l : Launch) (M : Me) (a0 : Nat) (x1 : Int32) (h0 : kd a0 = 4) : CN l yX4_putFrom cX4_putFrom 4 (some .int) (k2_rm 4 88) eI (fun b => [.ref (b + a0), .int x1]) M (f_X4_putFrom M a0 x1) := by
  refine CN.of RX4 (fun b => [(0, .ref (b + a0)), (1, .int x1)]) (by decide) rfl (fun b => Nat.le_of_ble_eq_true rfl) (fun b => rfl) ?_
  intro p e s m args below meth c D T b hC
  unfold f_X4_putFrom
  refine n_iload_n hC 1 rfl dX4_putFrom_0 ?_
  refine n_istore_n hC rfl [(2, .int x1), (0, .ref (b + a0)), (1, .int x1)] (by decide) rfl dX4_putFrom_1 ?_
  refine GN.sub [1, 0] rfl (b_X4_putFrom_2 hC a0 x1 h0 _ (fun v5 M6 => ?_) M)
  refine n_aload_n hC 0 rfl dX4_putFrom_29 ?_
  refine n_get hC clX4 h0 1 (.ref (b + (rf a0 1))) (by decide) rfl fl_X4_18 rfl dX4_putFrom_30 ?_
  refine n_get hC clX3 (kf_X4_1 h0) 1 (.int (M6.1 (rf a0 1) 1)) (by decide) rfl fl_X4_130 rfl dX4_putFrom_33 ?_
  refine n_istB_n hC rfl (fun v7 => [(2, .int v7), (0, .ref (b + a0))]) (by decide) (fun _ => rfl) dX4_putFrom_36 (fun v7 => ?_)
  refine n_iconst hC (0 : Int32) (by decide) dX4_putFrom_37 ?_
  refine n_istore_n hC rfl [(3, .int (0 : Int32)), (2, .int v7), (0, .ref (b + a0))] (by decide) rfl dX4_putFrom_38 ?_
  refine GN.sub [2, 1, 0] rfl (b_X4_putFrom_39 hC a0 v7 (0 : Int32) h0 _ (fun v12 M13 => ?_) M6)
  refine n_aload_n hC 0 rfl dX4_putFrom_66 ?_
  refine n_iload_n hC 1 rfl dX4_putFrom_67 ?_
  refine n_callVv (As := [.int v7]) (rest := []) h0 rfl (by decide) hC (c_X4_putEnd l M13 a0 v7 h0) my_X4_putEnd ml_X4_231 rfl rfl rfl (Nat.le_of_ble_eq_true rfl) ⟨by decide, by decide⟩ dX4_putFrom_68 (fun r14 M15 => ?_)
  refine n_aload_n hC 0 rfl dX4_putFrom_71 ?_
  refine n_get hC clX4 h0 1 (.ref (b + (rf a0 1))) (by decide) rfl fl_X4_18 rfl dX4_putFrom_72 ?_
  refine n_get hC clX3 (kf_X4_1 h0) 1 (.int (M15.1 (rf a0 1) 1)) (by decide) rfl fl_X4_130 rfl dX4_putFrom_75 ?_
  exact n_iret hC dX4_putFrom_78
def f_X4_write (M : Me) (a0 : Nat) : Option (Int32 × Me) := cal (f_X4_lacksData M a0) (fun r1 M2 => if r1 = (0 : Int32) then cal (f_X4_lengthFrom M2 a0 (0 : Int32)) (fun r3 M4 => if r3 ≤ (2000 : Int32) then bnd (sI M4 (rf a0 1) 1 (0 : Int32)) (fun M5 => cal (f_X4_putFrom M5 a0 (0 : Int32)) (fun r6 M7 => some (r6, M7))) else some ((-5 : Int32), M4)) else cal (f_X4_faultOf M2 a0 (1 : Int32)) (fun r8 M9 => some (r8, M9)))
set_option maxHeartbeats 4000000 in
set_option maxRecDepth 100000 in
theorem c_X4_write (l : Launch) (M : Me) (a0 : Nat) (h0 : kd a0 = 4) : CN l yX4_write cX4_write 1 (some .int) (k2_rm 5 111) eI (fun b => [.ref (b + a0)]) M (f_X4_write M a0) := by
  refine CN.of RX4 (fun b => [(0, .ref (b + a0))]) (by decide) rfl (fun b => Nat.le_of_ble_eq_true rfl) (fun b => rfl) ?_
  intro p e s m args below meth c D T b hC
  unfold f_X4_write
  refine n_aload_n hC 0 rfl dX4_write_0 ?_
  refine n_callVi (As := []) (rest := []) h0 rfl (by decide) hC (c_X4_lacksData l M a0 h0) my_X4_lacksData ml_X4_123 rfl rfl rfl (Nat.le_of_ble_eq_true rfl) ⟨by decide, by decide⟩ dX4_write_1 (fun r1 M2 => ?_)
  refine n_if_eq hC 13 dX4_write_4 (by decide) ?_ ?_
  · refine n_aload_n hC 0 rfl dX4_write_13 ?_
    refine n_iconst hC (0 : Int32) (by decide) dX4_write_14 ?_
    refine n_callVi (As := [.int (0 : Int32)]) (rest := []) h0 rfl (by decide) hC (c_X4_lengthFrom l M2 a0 (0 : Int32) h0) my_X4_lengthFrom ml_X4_127 rfl rfl rfl (Nat.le_of_ble_eq_true rfl) ⟨by decide, by decide⟩ dX4_write_15 (fun r3 M4 => ?_)
    refine n_sipush hC (2000 : Int32) (by decide) dX4_write_18 ?_
    refine n_icmp_le hC 27 dX4_write_21 (by decide) ?_ ?_
    · refine n_aload_n hC 0 rfl dX4_write_27 ?_
      refine n_get hC clX4 h0 1 (.ref (b + (rf a0 1))) (by decide) rfl fl_X4_18 rfl dX4_write_28 ?_
      refine n_iconst hC (0 : Int32) (by decide) dX4_write_31 ?_
      refine n_putI hC clX3 (kf_X4_1 h0) 1 (by decide) rfl rfl rfl fl_X4_130 dX4_write_32 (fun M5 => ?_)
      refine n_aload_n hC 0 rfl dX4_write_35 ?_
      refine n_iconst hC (0 : Int32) (by decide) dX4_write_36 ?_
      refine n_callVi (As := [.int (0 : Int32)]) (rest := []) h0 rfl (by decide) hC (c_X4_putFrom l M5 a0 (0 : Int32) h0) my_X4_putFrom ml_X4_133 rfl rfl rfl (Nat.le_of_ble_eq_true rfl) ⟨by decide, by decide⟩ dX4_write_37 (fun r6 M7 => ?_)
      exact n_iret hC dX4_write_40
    refine n_bipush hC (-5 : Int32) (by decide) dX4_write_24 ?_
    exact n_iret hC dX4_write_26
  refine n_aload_n hC 0 rfl dX4_write_7 ?_
  refine n_iconst hC (1 : Int32) (by decide) dX4_write_8 ?_
  refine n_callVi (As := [.int (1 : Int32)]) (rest := []) h0 rfl (by decide) hC (c_X4_faultOf l M2 a0 (1 : Int32) h0) my_X4_faultOf ml_X4_71 rfl rfl rfl (Nat.le_of_ble_eq_true rfl) ⟨by decide, by decide⟩ dX4_write_9 (fun r8 M9 => ?_)
  exact n_iret hC dX4_write_12
def g_X4_allPlacedBefore_2 (kx : Int32 → Me → Option (Int32 × Me)) (kb : Int32 × Me → Option (Int32 × Me)) (a0 : Nat) (x1 : Int32) (x2 : Int32) (M : Me) : Option (Int32 × Me) := if x1 ≤ x2 then kx x2 M else chk x2 (ln (rf a0 0)) (if (M.1 (rf (rf a0 0) x2.toNatClampNeg) 17) = (-1 : Int32) then chZ (0 : Int32) (some ((0 : Int32), M)) else bndV (x2 + (1 : Int32)) (fun v2 => kb (v2, M)))
set_option maxHeartbeats 4000000 in
set_option maxRecDepth 100000 in
theorem b_X4_allPlacedBefore_2_g {p : Program} {l : Launch} {e : Env} {s : State} {m : MethodId} {args : Array Value} {below : List Frame} {meth : Method} {c : Code} {D : va_G} {T : Nat → ClassId} {b : Nat} (hC : CX p s m args meth c cX4_allPlacedBefore 3 RX4 (some .boolean) D T) (a0 : Nat) (x1 : Int32) (x2 : Int32) (h0 : kd a0 = 4) (kx : Int32 → Me → Option (Int32 × Me)) (hkx : ∀ (x2 : Int32) (M : Me), GN p l e (k2_rm 0 0) s m args below meth c D T b 3 eI 28 [] [] M (kx x2 M)) (kb : Int32 × Me → Option (Int32 × Me)) (hkb : ∀ z : Int32 × Me, GN p l e (k2_rm 0 0) s m args below meth c D T b 3 eI 2 [(0, .ref (b + a0)), (1, .int x1), (2, .int z.1)] [] z.2 (kb z)) (M : Me) : GN p l e (k2_rm 0 0) s m args below meth c D T b 3 eI 2 [(0, .ref (b + a0)), (1, .int x1), (2, .int x2)] [] M (g_X4_allPlacedBefore_2 kx kb a0 x1 x2 M) := by
  unfold g_X4_allPlacedBefore_2
  refine n_iload_n hC 2 rfl dX4_allPlacedBefore_2 ?_
  refine n_iload_n hC 1 rfl dX4_allPlacedBefore_3 ?_
  refine n_icmp_ge hC 28 dX4_allPlacedBefore_4 (by decide) ?_ ?_
  · exact GN.sub [] rfl (hkx x2 M)
  refine n_aload_n hC 0 rfl dX4_allPlacedBefore_7 ?_
  refine n_get hC clX4 h0 0 (.ref (b + (rf a0 0))) (by decide) rfl fl_X4_11 rfl dX4_allPlacedBefore_8 ?_
  refine n_iload_n hC 2 rfl dX4_allPlacedBefore_11 ?_
  refine n_aaldE hC (kf_X4_0 h0) dX4_allPlacedBefore_12 (fun g1 => ?_)
  refine n_get hC clX0 (ke_9 (kf_X4_0 h0) g1) 17 (.int (M.1 (rf (rf a0 0) x2.toNatClampNeg) 17)) (by decide) rfl fl_X4_192 rfl dX4_allPlacedBefore_13 ?_
  refine n_iconst hC (-1 : Int32) (by decide) dX4_allPlacedBefore_16 ?_
  refine n_icmp_ne hC 22 dX4_allPlacedBefore_17 (by decide) ?_ ?_
  · refine n_iincB hC (1 : Int32) (by decide) (fun v2 => [(2, .int v2), (0, .ref (b + a0)), (1, .int x1)]) 2 rfl (by decide) (fun _ => rfl) dX4_allPlacedBefore_22 (fun v2 => ?_)
    refine n_goto hC (tgt := 2) (by decide) dX4_allPlacedBefore_25 ?_
    exact GN.sub [1, 2, 0] rfl (hkb (v2, M))
  refine n_iconst hC (0 : Int32) (by decide) dX4_allPlacedBefore_20 ?_
  exact n_zret hC dX4_allPlacedBefore_21
def l_X4_allPlacedBefore_2 (kx : Int32 → Me → Option (Int32 × Me)) (a0 : Nat) (x1 : Int32) (x2 : Int32) (M : Me) : Option (Int32 × Me) := lp (fun kb z => g_X4_allPlacedBefore_2 kx kb a0 x1 z.1 z.2) FU (x2, M)
set_option maxHeartbeats 4000000 in
set_option maxRecDepth 100000 in
theorem b_X4_allPlacedBefore_2 {p : Program} {l : Launch} {e : Env} {s : State} {m : MethodId} {args : Array Value} {below : List Frame} {meth : Method} {c : Code} {D : va_G} {T : Nat → ClassId} {b : Nat} (hC : CX p s m args meth c cX4_allPlacedBefore 3 RX4 (some .boolean) D T) (a0 : Nat) (x1 : Int32) (x2 : Int32) (h0 : kd a0 = 4) (kx : Int32 → Me → Option (Int32 × Me)) (hkx : ∀ (x2 : Int32) (M : Me), GN p l e (k2_rm 0 0) s m args below meth c D T b 3 eI 28 [] [] M (kx x2 M)) (M : Me) : GN p l e (k2_rm 0 0) s m args below meth c D T b 3 eI 2 [(0, .ref (b + a0)), (1, .int x1), (2, .int x2)] [] M (l_X4_allPlacedBefore_2 kx a0 x1 x2 M) := by
  exact n_loop (σ := Int32 × Me) (fun z => [(0, .ref (b + a0)), (1, .int x1), (2, .int z.1)]) (fun z => z.2) (fun kb hkb z => b_X4_allPlacedBefore_2_g hC a0 x1 z.1 h0 kx hkx kb hkb z.2) FU (x2, M)
def f_X4_allPlacedBefore (M : Me) (a0 : Nat) (x1 : Int32) : Option (Int32 × Me) := l_X4_allPlacedBefore_2 (fun v3 M4 => chZ (1 : Int32) (some ((1 : Int32), M4))) a0 x1 (0 : Int32) M
set_option maxHeartbeats 4000000 in
set_option maxRecDepth 100000 in
theorem c_X4_allPlacedBefore (l : Launch) (M : Me) (a0 : Nat) (x1 : Int32) (h0 : kd a0 = 4) : CN l yX4_allPlacedBefore cX4_allPlacedBefore 3 (some .boolean) (k2_rm 0 0) eI (fun b => [.ref (b + a0), .int x1]) M (f_X4_allPlacedBefore M a0 x1) := by
  refine CN.of RX4 (fun b => [(0, .ref (b + a0)), (1, .int x1)]) (by decide) rfl (fun b => Nat.le_of_ble_eq_true rfl) (fun b => rfl) ?_
  intro p e s m args below meth c D T b hC
  unfold f_X4_allPlacedBefore
  refine n_iconst hC (0 : Int32) (by decide) dX4_allPlacedBefore_0 ?_
  refine n_istore_n hC rfl [(2, .int (0 : Int32)), (0, .ref (b + a0)), (1, .int x1)] (by decide) rfl dX4_allPlacedBefore_1 ?_
  refine GN.sub [1, 2, 0] rfl (b_X4_allPlacedBefore_2 hC a0 x1 (0 : Int32) h0 _ (fun v3 M4 => ?_) M)
  refine n_iconst hC (1 : Int32) (by decide) dX4_allPlacedBefore_28 ?_
  exact n_zret hC dX4_allPlacedBefore_29
def f_X4_add (M : Me) (a0 : Nat) (x1 : Int32) : Option (Int32 × Me) := if x1 < (0 : Int32) then some ((-2 : Int32), M) else if x1 ≤ (M.1 a0 4) then cal (f_X4_allPlacedBefore M a0 x1) (fun r1 M2 => if r1 = (0 : Int32) then some ((-4 : Int32), M2) else cal (f_X4_lacksData M2 a0) (fun r3 M4 => if r3 = (0 : Int32) then cal (f_X4_lengthFrom M4 a0 x1) (fun r5 M6 => if ((M4.1 (rf a0 1) 1) + r5) ≤ (2000 : Int32) then cal (f_X4_putFrom M6 a0 x1) (fun r7 M8 => some (r7, M8)) else some ((-5 : Int32), M6)) else cal (f_X4_faultOf M4 a0 (1 : Int32)) (fun r9 M10 => some (r9, M10)))) else some ((-2 : Int32), M)
set_option maxHeartbeats 4000000 in
set_option maxRecDepth 100000 in
theorem c_X4_add (l : Launch) (M : Me) (a0 : Nat) (x1 : Int32) (h0 : kd a0 = 4) : CN l yX4_add cX4_add 2 (some .int) (k2_rm 5 111) eI (fun b => [.ref (b + a0), .int x1]) M (f_X4_add M a0 x1) := by
  refine CN.of RX4 (fun b => [(0, .ref (b + a0)), (1, .int x1)]) (by decide) rfl (fun b => Nat.le_of_ble_eq_true rfl) (fun b => rfl) ?_
  intro p e s m args below meth c D T b hC
  unfold f_X4_add
  refine n_iload_n hC 1 rfl dX4_add_0 ?_
  refine n_if_lt hC 12 dX4_add_1 (by decide) ?_ ?_
  · refine n_bipush hC (-2 : Int32) (by decide) dX4_add_12 ?_
    exact n_iret hC dX4_add_14
  refine n_iload_n hC 1 rfl dX4_add_4 ?_
  refine n_aload_n hC 0 rfl dX4_add_5 ?_
  refine n_get hC clX4 h0 4 (.int (M.1 a0 4)) (by decide) rfl fl_X4_35 rfl dX4_add_6 ?_
  refine n_icmp_le hC 15 dX4_add_9 (by decide) ?_ ?_
  · refine n_aload_n hC 0 rfl dX4_add_15 ?_
    refine n_iload_n hC 1 rfl dX4_add_16 ?_
    refine n_callVi (As := [.int x1]) (rest := []) h0 rfl (by decide) hC (c_X4_allPlacedBefore l M a0 x1 h0) my_X4_allPlacedBefore ml_X4_136 rfl rfl rfl (Nat.le_of_ble_eq_true rfl) ⟨by decide, by decide⟩ dX4_add_17 (fun r1 M2 => ?_)
    refine n_if_ne hC 26 dX4_add_20 (by decide) ?_ ?_
    · refine n_aload_n hC 0 rfl dX4_add_26 ?_
      refine n_callVi (As := []) (rest := []) h0 rfl (by decide) hC (c_X4_lacksData l M2 a0 h0) my_X4_lacksData ml_X4_123 rfl rfl rfl (Nat.le_of_ble_eq_true rfl) ⟨by decide, by decide⟩ dX4_add_27 (fun r3 M4 => ?_)
      refine n_if_eq hC 39 dX4_add_30 (by decide) ?_ ?_
      · refine n_aload_n hC 0 rfl dX4_add_39 ?_
        refine n_get hC clX4 h0 1 (.ref (b + (rf a0 1))) (by decide) rfl fl_X4_18 rfl dX4_add_40 ?_
        refine n_get hC clX3 (kf_X4_1 h0) 1 (.int (M4.1 (rf a0 1) 1)) (by decide) rfl fl_X4_130 rfl dX4_add_43 ?_
        refine n_aload_n hC 0 rfl dX4_add_46 ?_
        refine n_iload_n hC 1 rfl dX4_add_47 ?_
        refine n_callVi (As := [.int x1]) (rest := [.int (M4.1 (rf a0 1) 1)]) h0 rfl (by decide) hC (c_X4_lengthFrom l M4 a0 x1 h0) my_X4_lengthFrom ml_X4_127 rfl rfl rfl (Nat.le_of_ble_eq_true rfl) ⟨by decide, by decide⟩ dX4_add_48 (fun r5 M6 => ?_)
        refine n_iadd hC dX4_add_51 ?_
        refine n_sipush hC (2000 : Int32) (by decide) dX4_add_52 ?_
        refine n_icmp_le hC 61 dX4_add_55 (by decide) ?_ ?_
        · refine n_aload_n hC 0 rfl dX4_add_61 ?_
          refine n_iload_n hC 1 rfl dX4_add_62 ?_
          refine n_callVi (As := [.int x1]) (rest := []) h0 rfl (by decide) hC (c_X4_putFrom l M6 a0 x1 h0) my_X4_putFrom ml_X4_133 rfl rfl rfl (Nat.le_of_ble_eq_true rfl) ⟨by decide, by decide⟩ dX4_add_63 (fun r7 M8 => ?_)
          exact n_iret hC dX4_add_66
        refine n_bipush hC (-5 : Int32) (by decide) dX4_add_58 ?_
        exact n_iret hC dX4_add_60
      refine n_aload_n hC 0 rfl dX4_add_33 ?_
      refine n_iconst hC (1 : Int32) (by decide) dX4_add_34 ?_
      refine n_callVi (As := [.int (1 : Int32)]) (rest := []) h0 rfl (by decide) hC (c_X4_faultOf l M4 a0 (1 : Int32) h0) my_X4_faultOf ml_X4_71 rfl rfl rfl (Nat.le_of_ble_eq_true rfl) ⟨by decide, by decide⟩ dX4_add_35 (fun r9 M10 => ?_)
      exact n_iret hC dX4_add_38
    refine n_bipush hC (-4 : Int32) (by decide) dX4_add_23 ?_
    exact n_iret hC dX4_add_25
  refine n_bipush hC (-2 : Int32) (by decide) dX4_add_12 ?_
  exact n_iret hC dX4_add_14
def g_X4_read_50 (kx : Int32 → Me → Option (Int32 × Me)) (kb : Int32 × Me → Option (Int32 × Me)) (a0 : Nat) (x1 : Int32) (M : Me) : Option (Int32 × Me) := if (M.1 a0 4) ≤ x1 then kx x1 M else if (12 : Int32) ≤ x1 then kx x1 M else chk x1 (ln (rf a0 0)) (chk x1 (ln (rf (rf a0 2) 1)) (cal (f_X0_takeFrom M (rf (rf a0 0) x1.toNatClampNeg) (rf (rf (rf a0 2) 1) x1.toNatClampNeg) (rf a0 1)) (fun _ M8 => bndV (x1 + (1 : Int32)) (fun v9 => kb (v9, M8)))))
set_option maxHeartbeats 4000000 in
set_option maxRecDepth 100000 in
theorem b_X4_read_50_g {p : Program} {l : Launch} {e : Env} {s : State} {m : MethodId} {args : Array Value} {below : List Frame} {meth : Method} {c : Code} {D : va_G} {T : Nat → ClassId} {b : Nat} (hC : CX p s m args meth c cX4_read 2 RX4 (some .int) D T) (a0 : Nat) (x1 : Int32) (h0 : kd a0 = 4) (kx : Int32 → Me → Option (Int32 × Me)) (hkx : ∀ (x1 : Int32) (M : Me), GN p l e (k2_rm 7 155) s m args below meth c D T b 2 eI 92 [(0, .ref (b + a0))] [] M (kx x1 M)) (kb : Int32 × Me → Option (Int32 × Me)) (hkb : ∀ z : Int32 × Me, GN p l e (k2_rm 7 155) s m args below meth c D T b 2 eI 50 [(0, .ref (b + a0)), (1, .int z.1)] [] z.2 (kb z)) (M : Me) : GN p l e (k2_rm 7 155) s m args below meth c D T b 2 eI 50 [(0, .ref (b + a0)), (1, .int x1)] [] M (g_X4_read_50 kx kb a0 x1 M) := by
  unfold g_X4_read_50
  refine n_iload_n hC 1 rfl dX4_read_50 ?_
  refine n_aload_n hC 0 rfl dX4_read_51 ?_
  refine n_get hC clX4 h0 4 (.int (M.1 a0 4)) (by decide) rfl fl_X4_35 rfl dX4_read_52 ?_
  refine n_icmp_ge hC 92 dX4_read_55 (by decide) ?_ ?_
  · exact GN.sub [0] rfl (hkx x1 M)
  refine n_iload_n hC 1 rfl dX4_read_58 ?_
  refine n_bipush hC (12 : Int32) (by decide) dX4_read_59 ?_
  refine n_icmp_ge hC 92 dX4_read_61 (by decide) ?_ ?_
  · exact GN.sub [0] rfl (hkx x1 M)
  refine n_aload_n hC 0 rfl dX4_read_64 ?_
  refine n_get hC clX4 h0 0 (.ref (b + (rf a0 0))) (by decide) rfl fl_X4_11 rfl dX4_read_65 ?_
  refine n_iload_n hC 1 rfl dX4_read_68 ?_
  refine n_aaldE hC (kf_X4_0 h0) dX4_read_69 (fun g5 => ?_)
  refine n_aload_n hC 0 rfl dX4_read_70 ?_
  refine n_get hC clX4 h0 2 (.ref (b + (rf a0 2))) (by decide) rfl fl_X4_27 rfl dX4_read_71 ?_
  refine n_get hC clX1 (kf_X4_2 h0) 1 (.ref (b + (rf (rf a0 2) 1))) (by decide) rfl fl_X4_149 rfl dX4_read_74 ?_
  refine n_iload_n hC 1 rfl dX4_read_77 ?_
  refine n_aaldR hC (kf_X1_1 (kf_X4_2 h0)) dX4_read_78 (fun g6 => ?_)
  refine n_aload_n hC 0 rfl dX4_read_79 ?_
  refine n_get hC clX4 h0 1 (.ref (b + (rf a0 1))) (by decide) rfl fl_X4_18 rfl dX4_read_80 ?_
  refine n_callVv (As := [.ref (b + (rf (rf (rf a0 2) 1) x1.toNatClampNeg)), .ref (b + (rf a0 1))]) (rest := []) (ke_9 (kf_X4_0 h0) g5) rfl (by decide) hC (c_X0_takeFrom l M (rf (rf a0 0) x1.toNatClampNeg) (rf (rf (rf a0 2) 1) x1.toNatClampNeg) (rf a0 1) (ke_9 (kf_X4_0 h0) g5) (ke_10 (kf_X1_1 (kf_X4_2 h0)) g6) (kf_X4_1 h0)) my_X0_takeFrom ml_X4_153 rfl rfl rfl (Nat.le_of_ble_eq_true rfl) ⟨by decide, by decide⟩ dX4_read_83 (fun r7 M8 => ?_)
  refine n_iincB hC (1 : Int32) (by decide) (fun v9 => [(1, .int v9), (0, .ref (b + a0))]) 1 rfl (by decide) (fun _ => rfl) dX4_read_86 (fun v9 => ?_)
  refine n_goto hC (tgt := 50) (by decide) dX4_read_89 ?_
  exact GN.sub [1, 0] rfl (hkb (v9, M8))
def l_X4_read_50 (kx : Int32 → Me → Option (Int32 × Me)) (a0 : Nat) (x1 : Int32) (M : Me) : Option (Int32 × Me) := lp (fun kb z => g_X4_read_50 kx kb a0 z.1 z.2) FU (x1, M)
set_option maxHeartbeats 4000000 in
set_option maxRecDepth 100000 in
theorem b_X4_read_50 {p : Program} {l : Launch} {e : Env} {s : State} {m : MethodId} {args : Array Value} {below : List Frame} {meth : Method} {c : Code} {D : va_G} {T : Nat → ClassId} {b : Nat} (hC : CX p s m args meth c cX4_read 2 RX4 (some .int) D T) (a0 : Nat) (x1 : Int32) (h0 : kd a0 = 4) (kx : Int32 → Me → Option (Int32 × Me)) (hkx : ∀ (x1 : Int32) (M : Me), GN p l e (k2_rm 7 155) s m args below meth c D T b 2 eI 92 [(0, .ref (b + a0))] [] M (kx x1 M)) (M : Me) : GN p l e (k2_rm 7 155) s m args below meth c D T b 2 eI 50 [(0, .ref (b + a0)), (1, .int x1)] [] M (l_X4_read_50 kx a0 x1 M) := by
  exact n_loop (σ := Int32 × Me) (fun z => [(0, .ref (b + a0)), (1, .int z.1)]) (fun z => z.2) (fun kb hkb z => b_X4_read_50_g hC a0 z.1 h0 kx hkx kb hkb z.2) FU (x1, M)
def j_X4_read_92 (a0 : Nat) (M : Me) : Option (Int32 × Me) := bnd (sI M a0 5 (M.1 (rf a0 2) 4)) (fun M12 => cal (f_X3_copyTo M12 (rf a0 1) ((M12.1 (rf a0 2) 3) + (22 : Int32)) (M12.1 a0 5) (rf a0 3) (0 : Int32)) (fun _ M14 => some ((M14.1 a0 4), M14)))
set_option maxHeartbeats 4000000 in
set_option maxRecDepth 100000 in
theorem b_X4_read_92 {p : Program} {l : Launch} {e : Env} {s : State} {m : MethodId} {args : Array Value} {below : List Frame} {meth : Method} {c : Code} {D : va_G} {T : Nat → ClassId} {b : Nat} (hC : CX p s m args meth c cX4_read 2 RX4 (some .int) D T) (a0 : Nat) (h0 : kd a0 = 4) (M : Me) : GN p l e (k2_rm 7 155) s m args below meth c D T b 2 eI 92 [(0, .ref (b + a0))] [] M (j_X4_read_92 a0 M) := by
  unfold j_X4_read_92
  refine n_aload_n hC 0 rfl dX4_read_92 ?_
  refine n_aload_n hC 0 rfl dX4_read_93 ?_
  refine n_get hC clX4 h0 2 (.ref (b + (rf a0 2))) (by decide) rfl fl_X4_27 rfl dX4_read_94 ?_
  refine n_get hC clX1 (kf_X4_2 h0) 4 (.int (M.1 (rf a0 2) 4)) (by decide) rfl fl_X4_157 rfl dX4_read_97 ?_
  refine n_putI hC clX4 h0 5 (by decide) rfl rfl rfl fl_X4_39 dX4_read_100 (fun M12 => ?_)
  refine n_aload_n hC 0 rfl dX4_read_103 ?_
  refine n_get hC clX4 h0 1 (.ref (b + (rf a0 1))) (by decide) rfl fl_X4_18 rfl dX4_read_104 ?_
  refine n_aload_n hC 0 rfl dX4_read_107 ?_
  refine n_get hC clX4 h0 2 (.ref (b + (rf a0 2))) (by decide) rfl fl_X4_27 rfl dX4_read_108 ?_
  refine n_get hC clX1 (kf_X4_2 h0) 3 (.int (M12.1 (rf a0 2) 3)) (by decide) rfl fl_X4_158 rfl dX4_read_111 ?_
  refine n_bipush hC (22 : Int32) (by decide) dX4_read_114 ?_
  refine n_iadd hC dX4_read_116 ?_
  refine n_aload_n hC 0 rfl dX4_read_117 ?_
  refine n_get hC clX4 h0 5 (.int (M12.1 a0 5)) (by decide) rfl fl_X4_39 rfl dX4_read_118 ?_
  refine n_aload_n hC 0 rfl dX4_read_121 ?_
  refine n_get hC clX4 h0 3 (.ref (b + (rf a0 3))) (by decide) rfl fl_X4_31 rfl dX4_read_122 ?_
  refine n_iconst hC (0 : Int32) (by decide) dX4_read_125 ?_
  refine n_callVv (As := [.int ((M12.1 (rf a0 2) 3) + (22 : Int32)), .int (M12.1 a0 5), .ref (b + (rf a0 3)), .int (0 : Int32)]) (rest := []) (kf_X4_1 h0) rfl (by decide) hC (c_X3_copyTo l M12 (rf a0 1) ((M12.1 (rf a0 2) 3) + (22 : Int32)) (M12.1 a0 5) (rf a0 3) (0 : Int32) (kf_X4_1 h0) (kf_X4_3 h0)) my_X3_copyTo ml_X4_161 rfl rfl rfl (Nat.le_of_ble_eq_true rfl) ⟨by decide, by decide⟩ dX4_read_126 (fun r13 M14 => ?_)
  refine n_aload_n hC 0 rfl dX4_read_129 ?_
  refine n_get hC clX4 h0 4 (.int (M14.1 a0 4)) (by decide) rfl fl_X4_35 rfl dX4_read_130 ?_
  exact n_iret hC dX4_read_133
def f_X4_read (M : Me) (a0 : Nat) : Option (Int32 × Me) := cal (f_X1_isWhole M (rf a0 2)) (fun r1 M2 => if r1 = (0 : Int32) then bnd (sI M2 a0 7 (M2.1 (rf a0 2) 8)) (fun M15 => some (((-10 : Int32) - (M15.1 (rf a0 2) 7)), M15)) else bnd (sI M2 a0 7 (-1 : Int32)) (fun M3 => bnd (sI M3 a0 4 (M3.1 (rf a0 2) 2)) (fun M4 => l_X4_read_50 (fun v10 M11 => j_X4_read_92 a0 M11) a0 (0 : Int32) M4)))
set_option maxHeartbeats 4000000 in
set_option maxRecDepth 100000 in
theorem c_X4_read (l : Launch) (M : Me) (a0 : Nat) (h0 : kd a0 = 4) : CN l yX4_read cX4_read 2 (some .int) (k2_rm 7 155) eI (fun b => [.ref (b + a0)]) M (f_X4_read M a0) := by
  refine CN.of RX4 (fun b => [(0, .ref (b + a0))]) (by decide) rfl (fun b => Nat.le_of_ble_eq_true rfl) (fun b => rfl) ?_
  intro p e s m args below meth c D T b hC
  unfold f_X4_read
  refine n_aload_n hC 0 rfl dX4_read_0 ?_
  refine n_get hC clX4 h0 2 (.ref (b + (rf a0 2))) (by decide) rfl fl_X4_27 rfl dX4_read_1 ?_
  refine n_callVi (As := []) (rest := []) (kf_X4_2 h0) rfl (by decide) hC (c_X1_isWhole l M (rf a0 2) (kf_X4_2 h0)) my_X1_isWhole ml_X4_139 rfl rfl rfl (Nat.le_of_ble_eq_true rfl) ⟨by decide, by decide⟩ dX4_read_4 (fun r1 M2 => ?_)
  refine n_if_ne hC 32 dX4_read_7 (by decide) ?_ ?_
  · refine n_aload_n hC 0 rfl dX4_read_32 ?_
    refine n_iconst hC (-1 : Int32) (by decide) dX4_read_33 ?_
    refine n_putI hC clX4 h0 7 (by decide) rfl rfl rfl fl_X4_45 dX4_read_34 (fun M3 => ?_)
    refine n_aload_n hC 0 rfl dX4_read_37 ?_
    refine n_aload_n hC 0 rfl dX4_read_38 ?_
    refine n_get hC clX4 h0 2 (.ref (b + (rf a0 2))) (by decide) rfl fl_X4_27 rfl dX4_read_39 ?_
    refine n_get hC clX1 (kf_X4_2 h0) 2 (.int (M3.1 (rf a0 2) 2)) (by decide) rfl fl_X4_146 rfl dX4_read_42 ?_
    refine n_putI hC clX4 h0 4 (by decide) rfl rfl rfl fl_X4_35 dX4_read_45 (fun M4 => ?_)
    refine n_iconst hC (0 : Int32) (by decide) dX4_read_48 ?_
    refine n_istore_n hC rfl [(1, .int (0 : Int32)), (0, .ref (b + a0))] (by decide) rfl dX4_read_49 ?_
    refine GN.sub [1, 0] rfl (b_X4_read_50 hC a0 (0 : Int32) h0 _ (fun v10 M11 => ?_) M4)
    exact GN.sub [0] rfl (b_X4_read_92 hC a0 h0 M11)
  refine n_aload_n hC 0 rfl dX4_read_10 ?_
  refine n_aload_n hC 0 rfl dX4_read_11 ?_
  refine n_get hC clX4 h0 2 (.ref (b + (rf a0 2))) (by decide) rfl fl_X4_27 rfl dX4_read_12 ?_
  refine n_get hC clX1 (kf_X4_2 h0) 8 (.int (M2.1 (rf a0 2) 8)) (by decide) rfl fl_X4_142 rfl dX4_read_15 ?_
  refine n_putI hC clX4 h0 7 (by decide) rfl rfl rfl fl_X4_45 dX4_read_18 (fun M15 => ?_)
  refine n_bipush hC (-10 : Int32) (by decide) dX4_read_21 ?_
  refine n_aload_n hC 0 rfl dX4_read_23 ?_
  refine n_get hC clX4 h0 2 (.ref (b + (rf a0 2))) (by decide) rfl fl_X4_27 rfl dX4_read_24 ?_
  refine n_get hC clX1 (kf_X4_2 h0) 7 (.int (M15.1 (rf a0 2) 7)) (by decide) rfl fl_X4_143 rfl dX4_read_27 ?_
  refine n_isub hC dX4_read_30 ?_
  exact n_iret hC dX4_read_31
def f_X4_place (M : Me) (a0 : Nat) : Option (Int32 × Me) := some ((M.1 a0 7), M)
set_option maxHeartbeats 4000000 in
set_option maxRecDepth 100000 in
theorem c_X4_place (l : Launch) (M : Me) (a0 : Nat) (h0 : kd a0 = 4) : CN l yX4_place cX4_place 1 (some .int) (k2_rm 0 0) eI (fun b => [.ref (b + a0)]) M (f_X4_place M a0) := by
  refine CN.of RX4 (fun b => [(0, .ref (b + a0))]) (by decide) rfl (fun b => Nat.le_of_ble_eq_true rfl) (fun b => rfl) ?_
  intro p e s m args below meth c D T b hC
  unfold f_X4_place
  refine n_aload_n hC 0 rfl dX4_place_0 ?_
  refine n_get hC clX4 h0 7 (.int (M.1 a0 7)) (by decide) rfl fl_X4_45 rfl dX4_place_1 ?_
  exact n_iret hC dX4_place_4
def f_X4_feed (M : Me) (a0 : Nat) (y1 : Int64) (x3 : Int32) : Option (Int32 × Me) := if x3 < (1 : Int32) then some ((-3 : Int32), M) else if x3 ≤ (8 : Int32) then if ((M.1 (rf a0 1) 1) + x3) ≤ (2000 : Int32) then cal (f_X4_spread M y1 x3 (rf (rf a0 1) 0) (M.1 (rf a0 1) 1)) (fun _ M2 => bnd (sI M2 (rf a0 1) 1 ((M2.1 (rf a0 1) 1) + x3)) (fun M3 => some ((M3.1 (rf a0 1) 1), M3))) else some ((-5 : Int32), M) else some ((-3 : Int32), M)
set_option maxHeartbeats 4000000 in
set_option maxRecDepth 100000 in
theorem c_X4_feed (l : Launch) (M : Me) (a0 : Nat) (y1 : Int64) (x3 : Int32) (h0 : kd a0 = 4) : CN l yX4_feed cX4_feed 4 (some .int) (k2_rm 2 48) eI (fun b => [.ref (b + a0), .long y1, .int x3]) M (f_X4_feed M a0 y1 x3) := by
  refine CN.of RX4 (fun b => [(0, .ref (b + a0)), (1, .long y1), (3, .int x3)]) (by decide) rfl (fun b => Nat.le_of_ble_eq_true rfl) (fun b => rfl) ?_
  intro p e s m args below meth c D T b hC
  unfold f_X4_feed
  refine n_iload_n hC 2 rfl dX4_feed_0 ?_
  refine n_iconst hC (1 : Int32) (by decide) dX4_feed_1 ?_
  refine n_icmp_lt hC 11 dX4_feed_2 (by decide) ?_ ?_
  · refine n_bipush hC (-3 : Int32) (by decide) dX4_feed_11 ?_
    exact n_iret hC dX4_feed_13
  refine n_iload_n hC 2 rfl dX4_feed_5 ?_
  refine n_bipush hC (8 : Int32) (by decide) dX4_feed_6 ?_
  refine n_icmp_le hC 14 dX4_feed_8 (by decide) ?_ ?_
  · refine n_aload_n hC 0 rfl dX4_feed_14 ?_
    refine n_get hC clX4 h0 1 (.ref (b + (rf a0 1))) (by decide) rfl fl_X4_18 rfl dX4_feed_15 ?_
    refine n_get hC clX3 (kf_X4_1 h0) 1 (.int (M.1 (rf a0 1) 1)) (by decide) rfl fl_X4_130 rfl dX4_feed_18 ?_
    refine n_iload_n hC 2 rfl dX4_feed_21 ?_
    refine n_iadd hC dX4_feed_22 ?_
    refine n_sipush hC (2000 : Int32) (by decide) dX4_feed_23 ?_
    refine n_icmp_le hC 32 dX4_feed_26 (by decide) ?_ ?_
    · refine n_lload_n hC 1 rfl dX4_feed_32 ?_
      refine n_iload_n hC 2 rfl dX4_feed_33 ?_
      refine n_aload_n hC 0 rfl dX4_feed_34 ?_
      refine n_get hC clX4 h0 1 (.ref (b + (rf a0 1))) (by decide) rfl fl_X4_18 rfl dX4_feed_35 ?_
      refine n_get hC clX3 (kf_X4_1 h0) 0 (.ref (b + (rf (rf a0 1) 0))) (by decide) rfl fl_X4_165 rfl dX4_feed_38 ?_
      refine n_aload_n hC 0 rfl dX4_feed_41 ?_
      refine n_get hC clX4 h0 1 (.ref (b + (rf a0 1))) (by decide) rfl fl_X4_18 rfl dX4_feed_42 ?_
      refine n_get hC clX3 (kf_X4_1 h0) 1 (.int (M.1 (rf a0 1) 1)) (by decide) rfl fl_X4_130 rfl dX4_feed_45 ?_
      refine n_callSv (As := [.long y1, .int x3, .ref (b + (rf (rf a0 1) 0)), .int (M.1 (rf a0 1) 1)]) (rest := []) hC (c_X4_spread l M y1 x3 (rf (rf a0 1) 0) (M.1 (rf a0 1) 1) (kf_X3_0 (kf_X4_1 h0))) my_X4_spread ml_X4_81 rfl rfl rfl (Nat.le_of_ble_eq_true rfl) ⟨by decide, by decide⟩ dX4_feed_48 (fun r1 M2 => ?_)
      refine n_aload_n hC 0 rfl dX4_feed_51 ?_
      refine n_get hC clX4 h0 1 (.ref (b + (rf a0 1))) (by decide) rfl fl_X4_18 rfl dX4_feed_52 ?_
      refine n_dup hC rfl dX4_feed_55 ?_
      refine n_get hC clX3 (kf_X4_1 h0) 1 (.int (M2.1 (rf a0 1) 1)) (by decide) rfl fl_X4_130 rfl dX4_feed_56 ?_
      refine n_iload_n hC 2 rfl dX4_feed_59 ?_
      refine n_iadd hC dX4_feed_60 ?_
      refine n_putI hC clX3 (kf_X4_1 h0) 1 (by decide) rfl rfl rfl fl_X4_130 dX4_feed_61 (fun M3 => ?_)
      refine n_aload_n hC 0 rfl dX4_feed_64 ?_
      refine n_get hC clX4 h0 1 (.ref (b + (rf a0 1))) (by decide) rfl fl_X4_18 rfl dX4_feed_65 ?_
      refine n_get hC clX3 (kf_X4_1 h0) 1 (.int (M3.1 (rf a0 1) 1)) (by decide) rfl fl_X4_130 rfl dX4_feed_68 ?_
      exact n_iret hC dX4_feed_71
    refine n_bipush hC (-5 : Int32) (by decide) dX4_feed_29 ?_
    exact n_iret hC dX4_feed_31
  refine n_bipush hC (-3 : Int32) (by decide) dX4_feed_11 ?_
  exact n_iret hC dX4_feed_13
def f_X4_cut (M : Me) (a0 : Nat) (x1 : Int32) : Option (Int32 × Me) := if x1 < (0 : Int32) then some ((-3 : Int32), M) else if x1 ≤ (M.1 (rf a0 1) 1) then bndV ((M.1 (rf a0 1) 1) - x1) (fun v1 => bnd (sI M (rf a0 1) 1 x1) (fun M2 => some (v1, M2))) else some ((-3 : Int32), M)
set_option maxHeartbeats 4000000 in
set_option maxRecDepth 100000 in
theorem c_X4_cut (l : Launch) (M : Me) (a0 : Nat) (x1 : Int32) (h0 : kd a0 = 4) : CN l yX4_cut cX4_cut 3 (some .int) (k2_rm 0 0) eI (fun b => [.ref (b + a0), .int x1]) M (f_X4_cut M a0 x1) := by
  refine CN.of RX4 (fun b => [(0, .ref (b + a0)), (1, .int x1)]) (by decide) rfl (fun b => Nat.le_of_ble_eq_true rfl) (fun b => rfl) ?_
  intro p e s m args below meth c D T b hC
  unfold f_X4_cut
  refine n_iload_n hC 1 rfl dX4_cut_0 ?_
  refine n_if_lt hC 15 dX4_cut_1 (by decide) ?_ ?_
  · refine n_bipush hC (-3 : Int32) (by decide) dX4_cut_15 ?_
    exact n_iret hC dX4_cut_17
  refine n_iload_n hC 1 rfl dX4_cut_4 ?_
  refine n_aload_n hC 0 rfl dX4_cut_5 ?_
  refine n_get hC clX4 h0 1 (.ref (b + (rf a0 1))) (by decide) rfl fl_X4_18 rfl dX4_cut_6 ?_
  refine n_get hC clX3 (kf_X4_1 h0) 1 (.int (M.1 (rf a0 1) 1)) (by decide) rfl fl_X4_130 rfl dX4_cut_9 ?_
  refine n_icmp_le hC 18 dX4_cut_12 (by decide) ?_ ?_
  · refine n_aload_n hC 0 rfl dX4_cut_18 ?_
    refine n_get hC clX4 h0 1 (.ref (b + (rf a0 1))) (by decide) rfl fl_X4_18 rfl dX4_cut_19 ?_
    refine n_get hC clX3 (kf_X4_1 h0) 1 (.int (M.1 (rf a0 1) 1)) (by decide) rfl fl_X4_130 rfl dX4_cut_22 ?_
    refine n_iload_n hC 1 rfl dX4_cut_25 ?_
    refine n_isub hC dX4_cut_26 ?_
    refine n_istB_n hC rfl (fun v1 => [(2, .int v1), (0, .ref (b + a0)), (1, .int x1)]) (by decide) (fun _ => rfl) dX4_cut_27 (fun v1 => ?_)
    refine n_aload_n hC 1 rfl dX4_cut_28 ?_
    refine n_get hC clX4 h0 1 (.ref (b + (rf a0 1))) (by decide) rfl fl_X4_18 rfl dX4_cut_29 ?_
    refine n_iload_n hC 2 rfl dX4_cut_32 ?_
    refine n_putI hC clX3 (kf_X4_1 h0) 1 (by decide) rfl rfl rfl fl_X4_130 dX4_cut_33 (fun M2 => ?_)
    refine n_iload_n hC 0 rfl dX4_cut_36 ?_
    exact n_iret hC dX4_cut_37
  refine n_bipush hC (-3 : Int32) (by decide) dX4_cut_15 ?_
  exact n_iret hC dX4_cut_17
def f_X4_poke (M : Me) (a0 : Nat) (x1 : Int32) (x2 : Int32) : Option (Int32 × Me) := cal (f_X3_holds M (rf a0 1) x1 (1 : Int32)) (fun r1 M2 => if r1 = (0 : Int32) then some ((-2 : Int32), M2) else if x2 < (0 : Int32) then some ((-3 : Int32), M2) else if x2 ≤ (255 : Int32) then chk x1 (ln (rf (rf a0 1) 0)) (chk x1 (ln (rf (rf a0 1) 0)) (bnd (sI M2 (rf (rf a0 1) 0) x1.toNatClampNeg (vp_nar .byte (((M2.1 (rf (rf a0 1) 0) x1.toNatClampNeg) ^^^ x2).toInt8.toInt32))) (fun M4 => cal (f_X3_number1 M4 (rf a0 1) x1) (fun r5 M6 => some (r5, M6))))) else some ((-3 : Int32), M2))
set_option maxHeartbeats 4000000 in
set_option maxRecDepth 100000 in
theorem c_X4_poke (l : Launch) (M : Me) (a0 : Nat) (x1 : Int32) (x2 : Int32) (h0 : kd a0 = 4) : CN l yX4_poke cX4_poke 3 (some .int) (k2_rm 1 22) eI (fun b => [.ref (b + a0), .int x1, .int x2]) M (f_X4_poke M a0 x1 x2) := by
  refine CN.of RX4 (fun b => [(0, .ref (b + a0)), (1, .int x1), (2, .int x2)]) (by decide) rfl (fun b => Nat.le_of_ble_eq_true rfl) (fun b => rfl) ?_
  intro p e s m args below meth c D T b hC
  unfold f_X4_poke
  refine n_aload_n hC 0 rfl dX4_poke_0 ?_
  refine n_get hC clX4 h0 1 (.ref (b + (rf a0 1))) (by decide) rfl fl_X4_18 rfl dX4_poke_1 ?_
  refine n_iload_n hC 1 rfl dX4_poke_4 ?_
  refine n_iconst hC (1 : Int32) (by decide) dX4_poke_5 ?_
  refine n_callVi (As := [.int x1, .int (1 : Int32)]) (rest := []) (kf_X4_1 h0) rfl (by decide) hC (c_X3_holds l M (rf a0 1) x1 (1 : Int32) (kf_X4_1 h0)) my_X3_holds ml_X4_168 rfl rfl rfl (Nat.le_of_ble_eq_true rfl) ⟨by decide, by decide⟩ dX4_poke_6 (fun r1 M2 => ?_)
  refine n_if_ne hC 15 dX4_poke_9 (by decide) ?_ ?_
  · refine n_iload_n hC 2 rfl dX4_poke_15 ?_
    refine n_if_lt hC 26 dX4_poke_16 (by decide) ?_ ?_
    · refine n_bipush hC (-3 : Int32) (by decide) dX4_poke_26 ?_
      exact n_iret hC dX4_poke_28
    refine n_iload_n hC 2 rfl dX4_poke_19 ?_
    refine n_sipush hC (255 : Int32) (by decide) dX4_poke_20 ?_
    refine n_icmp_le hC 29 dX4_poke_23 (by decide) ?_ ?_
    · refine n_aload_n hC 0 rfl dX4_poke_29 ?_
      refine n_get hC clX4 h0 1 (.ref (b + (rf a0 1))) (by decide) rfl fl_X4_18 rfl dX4_poke_30 ?_
      refine n_get hC clX3 (kf_X4_1 h0) 0 (.ref (b + (rf (rf a0 1) 0))) (by decide) rfl fl_X4_165 rfl dX4_poke_33 ?_
      refine n_iload_n hC 1 rfl dX4_poke_36 ?_
      refine n_aload_n hC 0 rfl dX4_poke_37 ?_
      refine n_get hC clX4 h0 1 (.ref (b + (rf a0 1))) (by decide) rfl fl_X4_18 rfl dX4_poke_38 ?_
      refine n_get hC clX3 (kf_X4_1 h0) 0 (.ref (b + (rf (rf a0 1) 0))) (by decide) rfl fl_X4_165 rfl dX4_poke_41 ?_
      refine n_iload_n hC 1 rfl dX4_poke_44 ?_
      refine n_bald hC (kf_X3_0 (kf_X4_1 h0)) dX4_poke_45 (fun g3 => ?_)
      refine n_iload_n hC 2 rfl dX4_poke_46 ?_
      refine n_ixor hC dX4_poke_47 ?_
      refine n_i2b hC dX4_poke_48 ?_
      refine n_bast hC (kf_X3_0 (kf_X4_1 h0)) dX4_poke_49 (fun M4 => ?_)
      refine n_aload_n hC 0 rfl dX4_poke_50 ?_
      refine n_get hC clX4 h0 1 (.ref (b + (rf a0 1))) (by decide) rfl fl_X4_18 rfl dX4_poke_51 ?_
      refine n_iload_n hC 1 rfl dX4_poke_54 ?_
      refine n_callVi (As := [.int x1]) (rest := []) (kf_X4_1 h0) rfl (by decide) hC (c_X3_number1 l M4 (rf a0 1) x1 (kf_X4_1 h0)) my_X3_number1 ml_X4_172 rfl rfl rfl (Nat.le_of_ble_eq_true rfl) ⟨by decide, by decide⟩ dX4_poke_55 (fun r5 M6 => ?_)
      exact n_iret hC dX4_poke_58
    refine n_bipush hC (-3 : Int32) (by decide) dX4_poke_26 ?_
    exact n_iret hC dX4_poke_28
  refine n_bipush hC (-2 : Int32) (by decide) dX4_poke_12 ?_
  exact n_iret hC dX4_poke_14
def f_X4_at (M : Me) (a0 : Nat) (x1 : Int32) : Option (Int32 × Me) := cal (f_X3_holds M (rf a0 1) x1 (1 : Int32)) (fun r1 M2 => if r1 = (0 : Int32) then cal (f_X4_faultOf M2 a0 (3 : Int32)) (fun r3 M4 => some (r3, M4)) else cal (f_X3_number1 M2 (rf a0 1) x1) (fun r5 M6 => some (r5, M6)))
set_option maxHeartbeats 4000000 in
set_option maxRecDepth 100000 in
theorem c_X4_at (l : Launch) (M : Me) (a0 : Nat) (x1 : Int32) (h0 : kd a0 = 4) : CN l yX4_at cX4_at 2 (some .int) (k2_rm 1 22) eI (fun b => [.ref (b + a0), .int x1]) M (f_X4_at M a0 x1) := by
  refine CN.of RX4 (fun b => [(0, .ref (b + a0)), (1, .int x1)]) (by decide) rfl (fun b => Nat.le_of_ble_eq_true rfl) (fun b => rfl) ?_
  intro p e s m args below meth c D T b hC
  unfold f_X4_at
  refine n_aload_n hC 0 rfl dX4_at_0 ?_
  refine n_get hC clX4 h0 1 (.ref (b + (rf a0 1))) (by decide) rfl fl_X4_18 rfl dX4_at_1 ?_
  refine n_iload_n hC 1 rfl dX4_at_4 ?_
  refine n_iconst hC (1 : Int32) (by decide) dX4_at_5 ?_
  refine n_callVi (As := [.int x1, .int (1 : Int32)]) (rest := []) (kf_X4_1 h0) rfl (by decide) hC (c_X3_holds l M (rf a0 1) x1 (1 : Int32) (kf_X4_1 h0)) my_X3_holds ml_X4_168 rfl rfl rfl (Nat.le_of_ble_eq_true rfl) ⟨by decide, by decide⟩ dX4_at_6 (fun r1 M2 => ?_)
  refine n_if_eq hC 23 dX4_at_9 (by decide) ?_ ?_
  · refine n_aload_n hC 0 rfl dX4_at_23 ?_
    refine n_iconst hC (3 : Int32) (by decide) dX4_at_24 ?_
    refine n_callVi (As := [.int (3 : Int32)]) (rest := []) h0 rfl (by decide) hC (c_X4_faultOf l M2 a0 (3 : Int32) h0) my_X4_faultOf ml_X4_71 rfl rfl rfl (Nat.le_of_ble_eq_true rfl) ⟨by decide, by decide⟩ dX4_at_25 (fun r3 M4 => ?_)
    exact n_iret hC dX4_at_28
  refine n_aload_n hC 0 rfl dX4_at_12 ?_
  refine n_get hC clX4 h0 1 (.ref (b + (rf a0 1))) (by decide) rfl fl_X4_18 rfl dX4_at_13 ?_
  refine n_iload_n hC 1 rfl dX4_at_16 ?_
  refine n_callVi (As := [.int x1]) (rest := []) (kf_X4_1 h0) rfl (by decide) hC (c_X3_number1 l M2 (rf a0 1) x1 (kf_X4_1 h0)) my_X3_number1 ml_X4_172 rfl rfl rfl (Nat.le_of_ble_eq_true rfl) ⟨by decide, by decide⟩ dX4_at_17 (fun r5 M6 => ?_)
  refine n_goto hC (tgt := 28) (by decide) dX4_at_20 ?_
  exact n_iret hC dX4_at_28
def f_X4_half (M : Me) (a0 : Nat) (x1 : Int32) : Option (Int32 × Me) := cal (f_X3_holds M (rf a0 1) x1 (2 : Int32)) (fun r1 M2 => if r1 = (0 : Int32) then cal (f_X4_faultOf M2 a0 (3 : Int32)) (fun r3 M4 => some (r3, M4)) else cal (f_X3_number2 M2 (rf a0 1) x1) (fun r5 M6 => some (r5, M6)))
set_option maxHeartbeats 4000000 in
set_option maxRecDepth 100000 in
theorem c_X4_half (l : Launch) (M : Me) (a0 : Nat) (x1 : Int32) (h0 : kd a0 = 4) : CN l yX4_half cX4_half 2 (some .int) (k2_rm 2 42) eI (fun b => [.ref (b + a0), .int x1]) M (f_X4_half M a0 x1) := by
  refine CN.of RX4 (fun b => [(0, .ref (b + a0)), (1, .int x1)]) (by decide) rfl (fun b => Nat.le_of_ble_eq_true rfl) (fun b => rfl) ?_
  intro p e s m args below meth c D T b hC
  unfold f_X4_half
  refine n_aload_n hC 0 rfl dX4_half_0 ?_
  refine n_get hC clX4 h0 1 (.ref (b + (rf a0 1))) (by decide) rfl fl_X4_18 rfl dX4_half_1 ?_
  refine n_iload_n hC 1 rfl dX4_half_4 ?_
  refine n_iconst hC (2 : Int32) (by decide) dX4_half_5 ?_
  refine n_callVi (As := [.int x1, .int (2 : Int32)]) (rest := []) (kf_X4_1 h0) rfl (by decide) hC (c_X3_holds l M (rf a0 1) x1 (2 : Int32) (kf_X4_1 h0)) my_X3_holds ml_X4_168 rfl rfl rfl (Nat.le_of_ble_eq_true rfl) ⟨by decide, by decide⟩ dX4_half_6 (fun r1 M2 => ?_)
  refine n_if_eq hC 23 dX4_half_9 (by decide) ?_ ?_
  · refine n_aload_n hC 0 rfl dX4_half_23 ?_
    refine n_iconst hC (3 : Int32) (by decide) dX4_half_24 ?_
    refine n_callVi (As := [.int (3 : Int32)]) (rest := []) h0 rfl (by decide) hC (c_X4_faultOf l M2 a0 (3 : Int32) h0) my_X4_faultOf ml_X4_71 rfl rfl rfl (Nat.le_of_ble_eq_true rfl) ⟨by decide, by decide⟩ dX4_half_25 (fun r3 M4 => ?_)
    exact n_iret hC dX4_half_28
  refine n_aload_n hC 0 rfl dX4_half_12 ?_
  refine n_get hC clX4 h0 1 (.ref (b + (rf a0 1))) (by decide) rfl fl_X4_18 rfl dX4_half_13 ?_
  refine n_iload_n hC 1 rfl dX4_half_16 ?_
  refine n_callVi (As := [.int x1]) (rest := []) (kf_X4_1 h0) rfl (by decide) hC (c_X3_number2 l M2 (rf a0 1) x1 (kf_X4_1 h0)) my_X3_number2 ml_X4_175 rfl rfl rfl (Nat.le_of_ble_eq_true rfl) ⟨by decide, by decide⟩ dX4_half_17 (fun r5 M6 => ?_)
  refine n_goto hC (tgt := 28) (by decide) dX4_half_20 ?_
  exact n_iret hC dX4_half_28
def f_X4_word (M : Me) (a0 : Nat) (x1 : Int32) : Option (Int64 × Me) := cal (f_X3_holds M (rf a0 1) x1 (4 : Int32)) (fun r1 M2 => if r1 = (0 : Int32) then cal (f_X4_faultOf M2 a0 (3 : Int32)) (fun r3 M4 => some (r3.toInt64, M4)) else cal (f_X3_number4 M2 (rf a0 1) x1) (fun r5 M6 => some (r5, M6)))
set_option maxHeartbeats 4000000 in
set_option maxRecDepth 100000 in
theorem c_X4_word (l : Launch) (M : Me) (a0 : Nat) (x1 : Int32) (h0 : kd a0 = 4) : CN l yX4_word cX4_word 2 (some .long) (k2_rm 3 67) eL (fun b => [.ref (b + a0), .int x1]) M (f_X4_word M a0 x1) := by
  refine CN.of RX4 (fun b => [(0, .ref (b + a0)), (1, .int x1)]) (by decide) rfl (fun b => Nat.le_of_ble_eq_true rfl) (fun b => rfl) ?_
  intro p e s m args below meth c D T b hC
  unfold f_X4_word
  refine n_aload_n hC 0 rfl dX4_word_0 ?_
  refine n_get hC clX4 h0 1 (.ref (b + (rf a0 1))) (by decide) rfl fl_X4_18 rfl dX4_word_1 ?_
  refine n_iload_n hC 1 rfl dX4_word_4 ?_
  refine n_iconst hC (4 : Int32) (by decide) dX4_word_5 ?_
  refine n_callVi (As := [.int x1, .int (4 : Int32)]) (rest := []) (kf_X4_1 h0) rfl (by decide) hC (c_X3_holds l M (rf a0 1) x1 (4 : Int32) (kf_X4_1 h0)) my_X3_holds ml_X4_168 rfl rfl rfl (Nat.le_of_ble_eq_true rfl) ⟨by decide, by decide⟩ dX4_word_6 (fun r1 M2 => ?_)
  refine n_if_eq hC 23 dX4_word_9 (by decide) ?_ ?_
  · refine n_aload_n hC 0 rfl dX4_word_23 ?_
    refine n_iconst hC (3 : Int32) (by decide) dX4_word_24 ?_
    refine n_callVi (As := [.int (3 : Int32)]) (rest := []) h0 rfl (by decide) hC (c_X4_faultOf l M2 a0 (3 : Int32) h0) my_X4_faultOf ml_X4_71 rfl rfl rfl (Nat.le_of_ble_eq_true rfl) ⟨by decide, by decide⟩ dX4_word_25 (fun r3 M4 => ?_)
    refine n_i2l hC dX4_word_28 ?_
    exact n_lret hC dX4_word_29
  refine n_aload_n hC 0 rfl dX4_word_12 ?_
  refine n_get hC clX4 h0 1 (.ref (b + (rf a0 1))) (by decide) rfl fl_X4_18 rfl dX4_word_13 ?_
  refine n_iload_n hC 1 rfl dX4_word_16 ?_
  refine n_callVl (As := [.int x1]) (rest := []) (kf_X4_1 h0) rfl (by decide) hC (c_X3_number4 l M2 (rf a0 1) x1 (kf_X4_1 h0)) my_X3_number4 ml_X4_178 rfl rfl rfl (Nat.le_of_ble_eq_true rfl) ⟨by decide, by decide⟩ dX4_word_17 (fun r5 M6 => ?_)
  refine n_goto hC (tgt := 29) (by decide) dX4_word_20 ?_
  exact n_lret hC dX4_word_29
def j_X4_about_76 (a3 : Nat) (M : Me) : Option (Int32 × Me) := some ((M.1 a3 5), M)
set_option maxHeartbeats 4000000 in
set_option maxRecDepth 100000 in
theorem b_X4_about_76 {p : Program} {l : Launch} {e : Env} {s : State} {m : MethodId} {args : Array Value} {below : List Frame} {meth : Method} {c : Code} {D : va_G} {T : Nat → ClassId} {b : Nat} (hC : CX p s m args meth c cX4_about 4 RX4 (some .int) D T) (a3 : Nat) (h3 : kd a3 = 0) (M : Me) : GN p l e (k2_rm 1 21) s m args below meth c D T b 4 eI 76 [(3, .ref (b + a3))] [] M (j_X4_about_76 a3 M) := by
  unfold j_X4_about_76
  refine n_aload_n hC 0 rfl dX4_about_76 ?_
  refine n_get hC clX0 h3 5 (.int (M.1 a3 5)) (by decide) rfl fl_X4_65 rfl dX4_about_77 ?_
  exact n_iret hC dX4_about_80
def j_X4_about_81 (a3 : Nat) (M : Me) : Option (Int32 × Me) := some ((M.1 a3 7), M)
set_option maxHeartbeats 4000000 in
set_option maxRecDepth 100000 in
theorem b_X4_about_81 {p : Program} {l : Launch} {e : Env} {s : State} {m : MethodId} {args : Array Value} {below : List Frame} {meth : Method} {c : Code} {D : va_G} {T : Nat → ClassId} {b : Nat} (hC : CX p s m args meth c cX4_about 4 RX4 (some .int) D T) (a3 : Nat) (h3 : kd a3 = 0) (M : Me) : GN p l e (k2_rm 1 21) s m args below meth c D T b 4 eI 81 [(3, .ref (b + a3))] [] M (j_X4_about_81 a3 M) := by
  unfold j_X4_about_81
  refine n_aload_n hC 0 rfl dX4_about_81 ?_
  refine n_get hC clX0 h3 7 (.int (M.1 a3 7)) (by decide) rfl fl_X4_68 rfl dX4_about_82 ?_
  exact n_iret hC dX4_about_85
def j_X4_about_86 (a3 : Nat) (M : Me) : Option (Int32 × Me) := cal (f_X0_flags M a3) (fun r6 M7 => some (r6, M7))
set_option maxHeartbeats 4000000 in
set_option maxRecDepth 100000 in
theorem b_X4_about_86 {p : Program} {l : Launch} {e : Env} {s : State} {m : MethodId} {args : Array Value} {below : List Frame} {meth : Method} {c : Code} {D : va_G} {T : Nat → ClassId} {b : Nat} (hC : CX p s m args meth c cX4_about 4 RX4 (some .int) D T) (a3 : Nat) (h3 : kd a3 = 0) (M : Me) : GN p l e (k2_rm 1 21) s m args below meth c D T b 4 eI 86 [(3, .ref (b + a3))] [] M (j_X4_about_86 a3 M) := by
  unfold j_X4_about_86
  refine n_aload_n hC 0 rfl dX4_about_86 ?_
  refine n_callVi (As := []) (rest := []) h3 rfl (by decide) hC (c_X0_flags l M a3 h3) my_X0_flags ml_X4_182 rfl rfl rfl (Nat.le_of_ble_eq_true rfl) ⟨by decide, by decide⟩ dX4_about_87 (fun r6 M7 => ?_)
  exact n_iret hC dX4_about_90
def j_X4_about_91 (a3 : Nat) (M : Me) : Option (Int32 × Me) := cal (f_X0_method M a3) (fun r8 M9 => some (r8, M9))
set_option maxHeartbeats 4000000 in
set_option maxRecDepth 100000 in
theorem b_X4_about_91 {p : Program} {l : Launch} {e : Env} {s : State} {m : MethodId} {args : Array Value} {below : List Frame} {meth : Method} {c : Code} {D : va_G} {T : Nat → ClassId} {b : Nat} (hC : CX p s m args meth c cX4_about 4 RX4 (some .int) D T) (a3 : Nat) (h3 : kd a3 = 0) (M : Me) : GN p l e (k2_rm 1 21) s m args below meth c D T b 4 eI 91 [(3, .ref (b + a3))] [] M (j_X4_about_91 a3 M) := by
  unfold j_X4_about_91
  refine n_aload_n hC 0 rfl dX4_about_91 ?_
  refine n_callVi (As := []) (rest := []) h3 rfl (by decide) hC (c_X0_method l M a3 h3) my_X0_method ml_X4_186 rfl rfl rfl (Nat.le_of_ble_eq_true rfl) ⟨by decide, by decide⟩ dX4_about_92 (fun r8 M9 => ?_)
  exact n_iret hC dX4_about_95
def j_X4_about_96 (a3 : Nat) (M : Me) : Option (Int32 × Me) := some ((M.1 a3 14), M)
set_option maxHeartbeats 4000000 in
set_option maxRecDepth 100000 in
theorem b_X4_about_96 {p : Program} {l : Launch} {e : Env} {s : State} {m : MethodId} {args : Array Value} {below : List Frame} {meth : Method} {c : Code} {D : va_G} {T : Nat → ClassId} {b : Nat} (hC : CX p s m args meth c cX4_about 4 RX4 (some .int) D T) (a3 : Nat) (h3 : kd a3 = 0) (M : Me) : GN p l e (k2_rm 1 21) s m args below meth c D T b 4 eI 96 [(3, .ref (b + a3))] [] M (j_X4_about_96 a3 M) := by
  unfold j_X4_about_96
  refine n_aload_n hC 0 rfl dX4_about_96 ?_
  refine n_get hC clX0 h3 14 (.int (M.1 a3 14)) (by decide) rfl fl_X4_117 rfl dX4_about_97 ?_
  exact n_iret hC dX4_about_100
def j_X4_about_101 (a3 : Nat) (M : Me) : Option (Int32 × Me) := some ((M.1 a3 15), M)
set_option maxHeartbeats 4000000 in
set_option maxRecDepth 100000 in
theorem b_X4_about_101 {p : Program} {l : Launch} {e : Env} {s : State} {m : MethodId} {args : Array Value} {below : List Frame} {meth : Method} {c : Code} {D : va_G} {T : Nat → ClassId} {b : Nat} (hC : CX p s m args meth c cX4_about 4 RX4 (some .int) D T) (a3 : Nat) (h3 : kd a3 = 0) (M : Me) : GN p l e (k2_rm 1 21) s m args below meth c D T b 4 eI 101 [(3, .ref (b + a3))] [] M (j_X4_about_101 a3 M) := by
  unfold j_X4_about_101
  refine n_aload_n hC 0 rfl dX4_about_101 ?_
  refine n_get hC clX0 h3 15 (.int (M.1 a3 15)) (by decide) rfl fl_X4_114 rfl dX4_about_102 ?_
  exact n_iret hC dX4_about_105
def j_X4_about_106 (a3 : Nat) (M : Me) : Option (Int32 × Me) := some ((M.1 a3 16), M)
set_option maxHeartbeats 4000000 in
set_option maxRecDepth 100000 in
theorem b_X4_about_106 {p : Program} {l : Launch} {e : Env} {s : State} {m : MethodId} {args : Array Value} {below : List Frame} {meth : Method} {c : Code} {D : va_G} {T : Nat → ClassId} {b : Nat} (hC : CX p s m args meth c cX4_about 4 RX4 (some .int) D T) (a3 : Nat) (h3 : kd a3 = 0) (M : Me) : GN p l e (k2_rm 1 21) s m args below meth c D T b 4 eI 106 [(3, .ref (b + a3))] [] M (j_X4_about_106 a3 M) := by
  unfold j_X4_about_106
  refine n_aload_n hC 0 rfl dX4_about_106 ?_
  refine n_get hC clX0 h3 16 (.int (M.1 a3 16)) (by decide) rfl fl_X4_120 rfl dX4_about_107 ?_
  exact n_iret hC dX4_about_110
def j_X4_about_111 (a3 : Nat) (M : Me) : Option (Int32 × Me) := some ((M.1 a3 9), M)
set_option maxHeartbeats 4000000 in
set_option maxRecDepth 100000 in
theorem b_X4_about_111 {p : Program} {l : Launch} {e : Env} {s : State} {m : MethodId} {args : Array Value} {below : List Frame} {meth : Method} {c : Code} {D : va_G} {T : Nat → ClassId} {b : Nat} (hC : CX p s m args meth c cX4_about 4 RX4 (some .int) D T) (a3 : Nat) (h3 : kd a3 = 0) (M : Me) : GN p l e (k2_rm 1 21) s m args below meth c D T b 4 eI 111 [(3, .ref (b + a3))] [] M (j_X4_about_111 a3 M) := by
  unfold j_X4_about_111
  refine n_aload_n hC 0 rfl dX4_about_111 ?_
  refine n_get hC clX0 h3 9 (.int (M.1 a3 9)) (by decide) rfl fl_X4_100 rfl dX4_about_112 ?_
  exact n_iret hC dX4_about_115
def j_X4_about_116 (a3 : Nat) (M : Me) : Option (Int32 × Me) := if (M.1 a3 6) = (2 : Int32) then some ((1 : Int32), M) else some ((0 : Int32), M)
set_option maxHeartbeats 4000000 in
set_option maxRecDepth 100000 in
theorem b_X4_about_116 {p : Program} {l : Launch} {e : Env} {s : State} {m : MethodId} {args : Array Value} {below : List Frame} {meth : Method} {c : Code} {D : va_G} {T : Nat → ClassId} {b : Nat} (hC : CX p s m args meth c cX4_about 4 RX4 (some .int) D T) (a3 : Nat) (h3 : kd a3 = 0) (M : Me) : GN p l e (k2_rm 1 21) s m args below meth c D T b 4 eI 116 [(3, .ref (b + a3))] [] M (j_X4_about_116 a3 M) := by
  unfold j_X4_about_116
  refine n_aload_n hC 0 rfl dX4_about_116 ?_
  refine n_get hC clX0 h3 6 (.int (M.1 a3 6)) (by decide) rfl fl_X4_189 rfl dX4_about_117 ?_
  refine n_iconst hC (2 : Int32) (by decide) dX4_about_120 ?_
  refine n_icmp_ne hC 128 dX4_about_121 (by decide) ?_ ?_
  · refine n_iconst hC (0 : Int32) (by decide) dX4_about_128 ?_
    exact n_iret hC dX4_about_129
  refine n_iconst hC (1 : Int32) (by decide) dX4_about_124 ?_
  refine n_goto hC (tgt := 129) (by decide) dX4_about_125 ?_
  exact n_iret hC dX4_about_129
def j_X4_about_130 (a3 : Nat) (M : Me) : Option (Int32 × Me) := some ((M.1 a3 17), M)
set_option maxHeartbeats 4000000 in
set_option maxRecDepth 100000 in
theorem b_X4_about_130 {p : Program} {l : Launch} {e : Env} {s : State} {m : MethodId} {args : Array Value} {below : List Frame} {meth : Method} {c : Code} {D : va_G} {T : Nat → ClassId} {b : Nat} (hC : CX p s m args meth c cX4_about 4 RX4 (some .int) D T) (a3 : Nat) (h3 : kd a3 = 0) (M : Me) : GN p l e (k2_rm 1 21) s m args below meth c D T b 4 eI 130 [(3, .ref (b + a3))] [] M (j_X4_about_130 a3 M) := by
  unfold j_X4_about_130
  refine n_aload_n hC 0 rfl dX4_about_130 ?_
  refine n_get hC clX0 h3 17 (.int (M.1 a3 17)) (by decide) rfl fl_X4_192 rfl dX4_about_131 ?_
  exact n_iret hC dX4_about_134
def j_X4_about_135 (a3 : Nat) (M : Me) : Option (Int32 × Me) := if (M.1 a3 10) = (0 : Int32) then some ((1 : Int32), M) else some ((0 : Int32), M)
set_option maxHeartbeats 4000000 in
set_option maxRecDepth 100000 in
theorem b_X4_about_135 {p : Program} {l : Launch} {e : Env} {s : State} {m : MethodId} {args : Array Value} {below : List Frame} {meth : Method} {c : Code} {D : va_G} {T : Nat → ClassId} {b : Nat} (hC : CX p s m args meth c cX4_about 4 RX4 (some .int) D T) (a3 : Nat) (h3 : kd a3 = 0) (M : Me) : GN p l e (k2_rm 1 21) s m args below meth c D T b 4 eI 135 [(3, .ref (b + a3))] [] M (j_X4_about_135 a3 M) := by
  unfold j_X4_about_135
  refine n_aload_n hC 0 rfl dX4_about_135 ?_
  refine n_get hC clX0 h3 10 (.int (M.1 a3 10)) (by decide) rfl fl_X4_85 rfl dX4_about_136 ?_
  refine n_if_eq hC 146 dX4_about_139 (by decide) ?_ ?_
  · refine n_iconst hC (1 : Int32) (by decide) dX4_about_146 ?_
    exact n_iret hC dX4_about_147
  refine n_iconst hC (0 : Int32) (by decide) dX4_about_142 ?_
  refine n_goto hC (tgt := 147) (by decide) dX4_about_143 ?_
  exact n_iret hC dX4_about_147
def j_X4_about_148  (M : Me) : Option (Int32 × Me) := some ((-3 : Int32), M)
set_option maxHeartbeats 4000000 in
set_option maxRecDepth 100000 in
theorem b_X4_about_148 {p : Program} {l : Launch} {e : Env} {s : State} {m : MethodId} {args : Array Value} {below : List Frame} {meth : Method} {c : Code} {D : va_G} {T : Nat → ClassId} {b : Nat} (hC : CX p s m args meth c cX4_about 4 RX4 (some .int) D T)  (M : Me) : GN p l e (k2_rm 1 21) s m args below meth c D T b 4 eI 148 [] [] M (j_X4_about_148  M) := by
  unfold j_X4_about_148
  refine n_bipush hC (-3 : Int32) (by decide) dX4_about_148 ?_
  exact n_iret hC dX4_about_150
def f_X4_about (M : Me) (a0 : Nat) (x1 : Int32) (x2 : Int32) : Option (Int32 × Me) := cal (f_X4_isUnknown M a0 x1) (fun r1 M2 => if r1 = (0 : Int32) then chk x1 (ln (rf a0 0)) (bndV (rf (rf a0 0) x1.toNatClampNeg) (fun v4 => tsw x2 11 (fun i => match i with | 0 => j_X4_about_76 v4 M2 | 1 => j_X4_about_81 v4 M2 | 2 => j_X4_about_86 v4 M2 | 3 => j_X4_about_91 v4 M2 | 4 => j_X4_about_96 v4 M2 | 5 => j_X4_about_101 v4 M2 | 6 => j_X4_about_106 v4 M2 | 7 => j_X4_about_111 v4 M2 | 8 => j_X4_about_116 v4 M2 | 9 => j_X4_about_130 v4 M2 | 10 => j_X4_about_135 v4 M2 | _ => none) (j_X4_about_148 M2))) else some ((-2 : Int32), M2))
set_option maxHeartbeats 4000000 in
set_option maxRecDepth 100000 in
theorem c_X4_about (l : Launch) (M : Me) (a0 : Nat) (x1 : Int32) (x2 : Int32) (h0 : kd a0 = 4) : CN l yX4_about cX4_about 4 (some .int) (k2_rm 1 21) eI (fun b => [.ref (b + a0), .int x1, .int x2]) M (f_X4_about M a0 x1 x2) := by
  refine CN.of RX4 (fun b => [(0, .ref (b + a0)), (1, .int x1), (2, .int x2)]) (by decide) rfl (fun b => Nat.le_of_ble_eq_true rfl) (fun b => rfl) ?_
  intro p e s m args below meth c D T b hC
  unfold f_X4_about
  refine n_aload_n hC 0 rfl dX4_about_0 ?_
  refine n_iload_n hC 1 rfl dX4_about_1 ?_
  refine n_callVi (As := [.int x1]) (rest := []) h0 rfl (by decide) hC (c_X4_isUnknown l M a0 x1 h0) my_X4_isUnknown ml_X4_61 rfl rfl rfl (Nat.le_of_ble_eq_true rfl) ⟨by decide, by decide⟩ dX4_about_2 (fun r1 M2 => ?_)
  refine n_if_eq hC 11 dX4_about_5 (by decide) ?_ ?_
  · refine n_aload_n hC 0 rfl dX4_about_11 ?_
    refine n_get hC clX4 h0 0 (.ref (b + (rf a0 0))) (by decide) rfl fl_X4_11 rfl dX4_about_12 ?_
    refine n_iload_n hC 1 rfl dX4_about_15 ?_
    refine n_aaldE hC (kf_X4_0 h0) dX4_about_16 (fun g3 => ?_)
    refine n_astB_n hC rfl (ke_9 (kf_X4_0 h0) g3) (fun v4 => [(3, .ref (b + v4)), (0, .ref (b + a0)), (1, .int x1), (2, .int x2)]) (by decide) (fun _ => rfl) dX4_about_17 (fun v4 k5 => ?_)
    refine n_iload_n hC 3 rfl dX4_about_18 ?_
    refine n_tsw (n := 11) hC (fun i => match i with | 0 => 76 | 1 => 81 | 2 => 86 | 3 => 91 | 4 => 96 | 5 => 101 | 6 => 106 | 7 => 111 | 8 => 116 | 9 => 130 | 10 => 135 | _ => 148) 148 dX4_about_19 (by decide) (by decide) ?_ ?_ ?_
    · intro i hi
      match i, hi with
      | 0, _ => exact ⟨57, rfl, by decide⟩
      | 1, _ => exact ⟨62, rfl, by decide⟩
      | 2, _ => exact ⟨67, rfl, by decide⟩
      | 3, _ => exact ⟨72, rfl, by decide⟩
      | 4, _ => exact ⟨77, rfl, by decide⟩
      | 5, _ => exact ⟨82, rfl, by decide⟩
      | 6, _ => exact ⟨87, rfl, by decide⟩
      | 7, _ => exact ⟨92, rfl, by decide⟩
      | 8, _ => exact ⟨97, rfl, by decide⟩
      | 9, _ => exact ⟨111, rfl, by decide⟩
      | 10, _ => exact ⟨116, rfl, by decide⟩
      | i + 11, h => exact absurd h (by omega)
    · intro i hi
      match i, hi with
      | 0, _ => exact GN.sub [0] rfl (b_X4_about_76 hC v4 k5 M2)
      | 1, _ => exact GN.sub [0] rfl (b_X4_about_81 hC v4 k5 M2)
      | 2, _ => exact GN.sub [0] rfl (b_X4_about_86 hC v4 k5 M2)
      | 3, _ => exact GN.sub [0] rfl (b_X4_about_91 hC v4 k5 M2)
      | 4, _ => exact GN.sub [0] rfl (b_X4_about_96 hC v4 k5 M2)
      | 5, _ => exact GN.sub [0] rfl (b_X4_about_101 hC v4 k5 M2)
      | 6, _ => exact GN.sub [0] rfl (b_X4_about_106 hC v4 k5 M2)
      | 7, _ => exact GN.sub [0] rfl (b_X4_about_111 hC v4 k5 M2)
      | 8, _ => exact GN.sub [0] rfl (b_X4_about_116 hC v4 k5 M2)
      | 9, _ => exact GN.sub [0] rfl (b_X4_about_130 hC v4 k5 M2)
      | 10, _ => exact GN.sub [0] rfl (b_X4_about_135 hC v4 k5 M2)
      | i + 11, h => exact absurd h (by omega)
    exact GN.sub [] rfl (b_X4_about_148 hC  M2)
  refine n_bipush hC (-2 : Int32) (by decide) dX4_about_8 ?_
  exact n_iret hC dX4_about_10
def j_X4_letter_30 (a0 : Nat) (M : Me) : Option (Int32 × Me) := cal (f_X4_faultOf M a0 (3 : Int32)) (fun r6 M7 => some (r6, M7))
set_option maxHeartbeats 4000000 in
set_option maxRecDepth 100000 in
theorem b_X4_letter_30 {p : Program} {l : Launch} {e : Env} {s : State} {m : MethodId} {args : Array Value} {below : List Frame} {meth : Method} {c : Code} {D : va_G} {T : Nat → ClassId} {b : Nat} (hC : CX p s m args meth c cX4_letter 4 RX4 (some .int) D T) (a0 : Nat) (h0 : kd a0 = 4) (M : Me) : GN p l e (k2_rm 1 21) s m args below meth c D T b 4 eI 30 [(0, .ref (b + a0))] [] M (j_X4_letter_30 a0 M) := by
  unfold j_X4_letter_30
  refine n_aload_n hC 0 rfl dX4_letter_30 ?_
  refine n_iconst hC (3 : Int32) (by decide) dX4_letter_31 ?_
  refine n_callVi (As := [.int (3 : Int32)]) (rest := []) h0 rfl (by decide) hC (c_X4_faultOf l M a0 (3 : Int32) h0) my_X4_faultOf ml_X4_71 rfl rfl rfl (Nat.le_of_ble_eq_true rfl) ⟨by decide, by decide⟩ dX4_letter_32 (fun r6 M7 => ?_)
  exact n_iret hC dX4_letter_35
def f_X4_letter (M : Me) (a0 : Nat) (x1 : Int32) (x2 : Int32) : Option (Int32 × Me) := cal (f_X4_isUnknown M a0 x1) (fun r1 M2 => if r1 = (0 : Int32) then chk x1 (ln (rf a0 0)) (bndV (rf (rf a0 0) x1.toNatClampNeg) (fun v4 => if x2 < (0 : Int32) then j_X4_letter_30 a0 M2 else if x2 < (M2.1 v4 7) then chk x2 (ln (rf v4 0)) (some (((M2.1 (rf v4 0) x2.toNatClampNeg) &&& (255 : Int32)), M2)) else j_X4_letter_30 a0 M2)) else some ((-2 : Int32), M2))
set_option maxHeartbeats 4000000 in
set_option maxRecDepth 100000 in
theorem c_X4_letter (l : Launch) (M : Me) (a0 : Nat) (x1 : Int32) (x2 : Int32) (h0 : kd a0 = 4) : CN l yX4_letter cX4_letter 4 (some .int) (k2_rm 1 21) eI (fun b => [.ref (b + a0), .int x1, .int x2]) M (f_X4_letter M a0 x1 x2) := by
  refine CN.of RX4 (fun b => [(0, .ref (b + a0)), (1, .int x1), (2, .int x2)]) (by decide) rfl (fun b => Nat.le_of_ble_eq_true rfl) (fun b => rfl) ?_
  intro p e s m args below meth c D T b hC
  unfold f_X4_letter
  refine n_aload_n hC 0 rfl dX4_letter_0 ?_
  refine n_iload_n hC 1 rfl dX4_letter_1 ?_
  refine n_callVi (As := [.int x1]) (rest := []) h0 rfl (by decide) hC (c_X4_isUnknown l M a0 x1 h0) my_X4_isUnknown ml_X4_61 rfl rfl rfl (Nat.le_of_ble_eq_true rfl) ⟨by decide, by decide⟩ dX4_letter_2 (fun r1 M2 => ?_)
  refine n_if_eq hC 11 dX4_letter_5 (by decide) ?_ ?_
  · refine n_aload_n hC 0 rfl dX4_letter_11 ?_
    refine n_get hC clX4 h0 0 (.ref (b + (rf a0 0))) (by decide) rfl fl_X4_11 rfl dX4_letter_12 ?_
    refine n_iload_n hC 1 rfl dX4_letter_15 ?_
    refine n_aaldE hC (kf_X4_0 h0) dX4_letter_16 (fun g3 => ?_)
    refine n_astB_n hC rfl (ke_9 (kf_X4_0 h0) g3) (fun v4 => [(3, .ref (b + v4)), (0, .ref (b + a0)), (1, .int x1), (2, .int x2)]) (by decide) (fun _ => rfl) dX4_letter_17 (fun v4 k5 => ?_)
    refine n_iload_n hC 3 rfl dX4_letter_18 ?_
    refine n_if_lt hC 30 dX4_letter_19 (by decide) ?_ ?_
    · exact GN.sub [1] rfl (b_X4_letter_30 hC a0 h0 M2)
    refine n_iload_n hC 3 rfl dX4_letter_22 ?_
    refine n_aload_n hC 0 rfl dX4_letter_23 ?_
    refine n_get hC clX0 k5 7 (.int (M2.1 v4 7)) (by decide) rfl fl_X4_68 rfl dX4_letter_24 ?_
    refine n_icmp_lt hC 36 dX4_letter_27 (by decide) ?_ ?_
    · refine n_aload_n hC 0 rfl dX4_letter_36 ?_
      refine n_get hC clX0 k5 0 (.ref (b + (rf v4 0))) (by decide) rfl fl_X4_195 rfl dX4_letter_37 ?_
      refine n_iload_n hC 3 rfl dX4_letter_40 ?_
      refine n_bald hC (kf_X0_0 k5) dX4_letter_41 (fun g8 => ?_)
      refine n_sipush hC (255 : Int32) (by decide) dX4_letter_42 ?_
      refine n_iand hC dX4_letter_45 ?_
      exact n_iret hC dX4_letter_46
    exact GN.sub [1] rfl (b_X4_letter_30 hC a0 h0 M2)
  refine n_bipush hC (-2 : Int32) (by decide) dX4_letter_8 ?_
  exact n_iret hC dX4_letter_10
def j_X4_octet_57 (a0 : Nat) (M : Me) : Option (Int32 × Me) := cal (f_X4_faultOf M a0 (3 : Int32)) (fun r8 M9 => some (r8, M9))
set_option maxHeartbeats 4000000 in
set_option maxRecDepth 100000 in
theorem b_X4_octet_57 {p : Program} {l : Launch} {e : Env} {s : State} {m : MethodId} {args : Array Value} {below : List Frame} {meth : Method} {c : Code} {D : va_G} {T : Nat → ClassId} {b : Nat} (hC : CX p s m args meth c cX4_octet 4 RX4 (some .int) D T) (a0 : Nat) (h0 : kd a0 = 4) (M : Me) : GN p l e (k2_rm 1 21) s m args below meth c D T b 4 eI 57 [(0, .ref (b + a0))] [] M (j_X4_octet_57 a0 M) := by
  unfold j_X4_octet_57
  refine n_aload_n hC 0 rfl dX4_octet_57 ?_
  refine n_iconst hC (3 : Int32) (by decide) dX4_octet_58 ?_
  refine n_callVi (As := [.int (3 : Int32)]) (rest := []) h0 rfl (by decide) hC (c_X4_faultOf l M a0 (3 : Int32) h0) my_X4_faultOf ml_X4_71 rfl rfl rfl (Nat.le_of_ble_eq_true rfl) ⟨by decide, by decide⟩ dX4_octet_59 (fun r8 M9 => ?_)
  exact n_iret hC dX4_octet_62
def f_X4_octet (M : Me) (a0 : Nat) (x1 : Int32) (x2 : Int32) : Option (Int32 × Me) := cal (f_X4_isUnknown M a0 x1) (fun r1 M2 => if r1 = (0 : Int32) then chk x1 (ln (rf a0 0)) (bndV (rf (rf a0 0) x1.toNatClampNeg) (fun v4 => if (M2.1 v4 5) = (2 : Int32) then cal (f_X4_faultOf M2 a0 (2 : Int32)) (fun r13 M14 => some (r13, M14)) else cal (f_X0_lacksData M2 v4) (fun r6 M7 => if r6 = (0 : Int32) then if x2 < (0 : Int32) then j_X4_octet_57 a0 M7 else if x2 < (M7.1 v4 8) then chk x2 (ln (rf v4 1)) (some (((M7.1 (rf v4 1) x2.toNatClampNeg) &&& (255 : Int32)), M7)) else j_X4_octet_57 a0 M7 else cal (f_X4_faultOf M7 a0 (1 : Int32)) (fun r11 M12 => some (r11, M12))))) else some ((-2 : Int32), M2))
set_option maxHeartbeats 4000000 in
set_option maxRecDepth 100000 in
theorem c_X4_octet (l : Launch) (M : Me) (a0 : Nat) (x1 : Int32) (x2 : Int32) (h0 : kd a0 = 4) : CN l yX4_octet cX4_octet 4 (some .int) (k2_rm 1 21) eI (fun b => [.ref (b + a0), .int x1, .int x2]) M (f_X4_octet M a0 x1 x2) := by
  refine CN.of RX4 (fun b => [(0, .ref (b + a0)), (1, .int x1), (2, .int x2)]) (by decide) rfl (fun b => Nat.le_of_ble_eq_true rfl) (fun b => rfl) ?_
  intro p e s m args below meth c D T b hC
  unfold f_X4_octet
  refine n_aload_n hC 0 rfl dX4_octet_0 ?_
  refine n_iload_n hC 1 rfl dX4_octet_1 ?_
  refine n_callVi (As := [.int x1]) (rest := []) h0 rfl (by decide) hC (c_X4_isUnknown l M a0 x1 h0) my_X4_isUnknown ml_X4_61 rfl rfl rfl (Nat.le_of_ble_eq_true rfl) ⟨by decide, by decide⟩ dX4_octet_2 (fun r1 M2 => ?_)
  refine n_if_eq hC 11 dX4_octet_5 (by decide) ?_ ?_
  · refine n_aload_n hC 0 rfl dX4_octet_11 ?_
    refine n_get hC clX4 h0 0 (.ref (b + (rf a0 0))) (by decide) rfl fl_X4_11 rfl dX4_octet_12 ?_
    refine n_iload_n hC 1 rfl dX4_octet_15 ?_
    refine n_aaldE hC (kf_X4_0 h0) dX4_octet_16 (fun g3 => ?_)
    refine n_astB_n hC rfl (ke_9 (kf_X4_0 h0) g3) (fun v4 => [(3, .ref (b + v4)), (0, .ref (b + a0)), (1, .int x1), (2, .int x2)]) (by decide) (fun _ => rfl) dX4_octet_17 (fun v4 k5 => ?_)
    refine n_aload_n hC 0 rfl dX4_octet_18 ?_
    refine n_get hC clX0 k5 5 (.int (M2.1 v4 5)) (by decide) rfl fl_X4_65 rfl dX4_octet_19 ?_
    refine n_iconst hC (2 : Int32) (by decide) dX4_octet_22 ?_
    refine n_icmp_ne hC 32 dX4_octet_23 (by decide) ?_ ?_
    · refine n_aload_n hC 0 rfl dX4_octet_32 ?_
      refine n_callVi (As := []) (rest := []) k5 rfl (by decide) hC (c_X0_lacksData l M2 v4 k5) my_X0_lacksData ml_X4_198 rfl rfl rfl (Nat.le_of_ble_eq_true rfl) ⟨by decide, by decide⟩ dX4_octet_33 (fun r6 M7 => ?_)
      refine n_if_eq hC 45 dX4_octet_36 (by decide) ?_ ?_
      · refine n_iload_n hC 3 rfl dX4_octet_45 ?_
        refine n_if_lt hC 57 dX4_octet_46 (by decide) ?_ ?_
        · exact GN.sub [1] rfl (b_X4_octet_57 hC a0 h0 M7)
        refine n_iload_n hC 3 rfl dX4_octet_49 ?_
        refine n_aload_n hC 0 rfl dX4_octet_50 ?_
        refine n_get hC clX0 k5 8 (.int (M7.1 v4 8)) (by decide) rfl fl_X4_75 rfl dX4_octet_51 ?_
        refine n_icmp_lt hC 63 dX4_octet_54 (by decide) ?_ ?_
        · refine n_aload_n hC 0 rfl dX4_octet_63 ?_
          refine n_get hC clX0 k5 1 (.ref (b + (rf v4 1))) (by decide) rfl fl_X4_78 rfl dX4_octet_64 ?_
          refine n_iload_n hC 3 rfl dX4_octet_67 ?_
          refine n_bald hC (kf_X0_1 k5) dX4_octet_68 (fun g10 => ?_)
          refine n_sipush hC (255 : Int32) (by decide) dX4_octet_69 ?_
          refine n_iand hC dX4_octet_72 ?_
          exact n_iret hC dX4_octet_73
        exact GN.sub [1] rfl (b_X4_octet_57 hC a0 h0 M7)
      refine n_aload_n hC 1 rfl dX4_octet_39 ?_
      refine n_iconst hC (1 : Int32) (by decide) dX4_octet_40 ?_
      refine n_callVi (As := [.int (1 : Int32)]) (rest := []) h0 rfl (by decide) hC (c_X4_faultOf l M7 a0 (1 : Int32) h0) my_X4_faultOf ml_X4_71 rfl rfl rfl (Nat.le_of_ble_eq_true rfl) ⟨by decide, by decide⟩ dX4_octet_41 (fun r11 M12 => ?_)
      exact n_iret hC dX4_octet_44
    refine n_aload_n hC 1 rfl dX4_octet_26 ?_
    refine n_iconst hC (2 : Int32) (by decide) dX4_octet_27 ?_
    refine n_callVi (As := [.int (2 : Int32)]) (rest := []) h0 rfl (by decide) hC (c_X4_faultOf l M2 a0 (2 : Int32) h0) my_X4_faultOf ml_X4_71 rfl rfl rfl (Nat.le_of_ble_eq_true rfl) ⟨by decide, by decide⟩ dX4_octet_28 (fun r13 M14 => ?_)
    exact n_iret hC dX4_octet_31
  refine n_bipush hC (-2 : Int32) (by decide) dX4_octet_8 ?_
  exact n_iret hC dX4_octet_10
def j_X4_size_85 (x2 : Int32) (a3 : Nat) (M : Me) : Option (Int64 × Me) := if x2 = (0 : Int32) then some (((M.1 a3 8)).toInt64, M) else if x2 = (1 : Int32) then cal (f_X0_trueSize M a3) (fun r8 M9 => some (r8.toInt64, M9)) else cal (f_X0_sum M a3) (fun r6 M7 => some ((r6.toInt64 &&& (4294967295 : Int64)), M7))
set_option maxHeartbeats 4000000 in
set_option maxRecDepth 100000 in
theorem b_X4_size_85 {p : Program} {l : Launch} {e : Env} {s : State} {m : MethodId} {args : Array Value} {below : List Frame} {meth : Method} {c : Code} {D : va_G} {T : Nat → ClassId} {b : Nat} (hC : CX p s m args meth c cX4_size 5 RX4 (some .long) D T) (x2 : Int32) (a3 : Nat) (h3 : kd a3 = 0) (M : Me) : GN p l e (k2_rm 2 44) s m args below meth c D T b 5 eL 85 [(2, .int x2), (3, .ref (b + a3))] [] M (j_X4_size_85 x2 a3 M) := by
  unfold j_X4_size_85
  refine n_iload_n hC 0 rfl dX4_size_85 ?_
  refine n_if_ne hC 95 dX4_size_86 (by decide) ?_ ?_
  · refine n_iload_n hC 0 rfl dX4_size_95 ?_
    refine n_iconst hC (1 : Int32) (by decide) dX4_size_96 ?_
    refine n_icmp_ne hC 108 dX4_size_97 (by decide) ?_ ?_
    · refine n_aload_n hC 1 rfl dX4_size_108 ?_
      refine n_callVi (As := []) (rest := []) h3 rfl (by decide) hC (c_X0_sum l M a3 h3) my_X0_sum ml_X4_206 rfl rfl rfl (Nat.le_of_ble_eq_true rfl) ⟨by decide, by decide⟩ dX4_size_109 (fun r6 M7 => ?_)
      refine n_i2l hC dX4_size_112 ?_
      refine n_ldc2 hC (4294967295 : Int64) kc_X4_209 dX4_size_113 ?_
      refine n_land hC dX4_size_116 ?_
      exact n_lret hC dX4_size_117
    refine n_aload_n hC 1 rfl dX4_size_100 ?_
    refine n_callVi (As := []) (rest := []) h3 rfl (by decide) hC (c_X0_trueSize l M a3 h3) my_X0_trueSize ml_X4_203 rfl rfl rfl (Nat.le_of_ble_eq_true rfl) ⟨by decide, by decide⟩ dX4_size_101 (fun r8 M9 => ?_)
    refine n_i2l hC dX4_size_104 ?_
    refine n_goto hC (tgt := 117) (by decide) dX4_size_105 ?_
    exact n_lret hC dX4_size_117
  refine n_aload_n hC 1 rfl dX4_size_89 ?_
  refine n_get hC clX0 h3 8 (.int (M.1 a3 8)) (by decide) rfl fl_X4_75 rfl dX4_size_90 ?_
  refine n_i2l hC dX4_size_93 ?_
  exact n_lret hC dX4_size_94
def j_X4_size_64 (a0 : Nat) (x2 : Int32) (a3 : Nat) (s0 : Int32) (M : Me) : Option (Int64 × Me) := if s0 = (0 : Int32) then cal (f_X0_lacksData M a3) (fun r10 M11 => if r10 = (0 : Int32) then j_X4_size_85 x2 a3 M11 else cal (f_X4_faultOf M11 a0 (1 : Int32)) (fun r12 M13 => some (r12.toInt64, M13))) else j_X4_size_85 x2 a3 M
set_option maxHeartbeats 4000000 in
set_option maxRecDepth 100000 in
theorem b_X4_size_64 {p : Program} {l : Launch} {e : Env} {s : State} {m : MethodId} {args : Array Value} {below : List Frame} {meth : Method} {c : Code} {D : va_G} {T : Nat → ClassId} {b : Nat} (hC : CX p s m args meth c cX4_size 5 RX4 (some .long) D T) (a0 : Nat) (x2 : Int32) (a3 : Nat) (s0 : Int32) (h0 : kd a0 = 4) (h3 : kd a3 = 0) (M : Me) : GN p l e (k2_rm 2 44) s m args below meth c D T b 5 eL 64 [(0, .ref (b + a0)), (2, .int x2), (3, .ref (b + a3))] [.int s0] M (j_X4_size_64 a0 x2 a3 s0 M) := by
  unfold j_X4_size_64
  refine n_istore hC [(4, .int s0), (0, .ref (b + a0)), (2, .int x2), (3, .ref (b + a3))] (by decide) rfl dX4_size_64 ?_
  refine n_iload hC 0 rfl dX4_size_66 ?_
  refine n_if_ne hC 85 dX4_size_68 (by decide) ?_ ?_
  · exact GN.sub [2, 3] rfl (b_X4_size_85 hC x2 a3 h3 M)
  refine n_aload_n hC 3 rfl dX4_size_71 ?_
  refine n_callVi (As := []) (rest := []) h3 rfl (by decide) hC (c_X0_lacksData l M a3 h3) my_X0_lacksData ml_X4_198 rfl rfl rfl (Nat.le_of_ble_eq_true rfl) ⟨by decide, by decide⟩ dX4_size_72 (fun r10 M11 => ?_)
  refine n_if_eq hC 85 dX4_size_75 (by decide) ?_ ?_
  · exact GN.sub [2, 3] rfl (b_X4_size_85 hC x2 a3 h3 M11)
  refine n_aload_n hC 1 rfl dX4_size_78 ?_
  refine n_iconst hC (1 : Int32) (by decide) dX4_size_79 ?_
  refine n_callVi (As := [.int (1 : Int32)]) (rest := []) h0 rfl (by decide) hC (c_X4_faultOf l M11 a0 (1 : Int32) h0) my_X4_faultOf ml_X4_71 rfl rfl rfl (Nat.le_of_ble_eq_true rfl) ⟨by decide, by decide⟩ dX4_size_80 (fun r12 M13 => ?_)
  refine n_i2l hC dX4_size_83 ?_
  exact n_lret hC dX4_size_84
def j_X4_size_63 (a0 : Nat) (x2 : Int32) (a3 : Nat) (M : Me) : Option (Int64 × Me) := j_X4_size_64 a0 x2 a3 (0 : Int32) M
set_option maxHeartbeats 4000000 in
set_option maxRecDepth 100000 in
theorem b_X4_size_63 {p : Program} {l : Launch} {e : Env} {s : State} {m : MethodId} {args : Array Value} {below : List Frame} {meth : Method} {c : Code} {D : va_G} {T : Nat → ClassId} {b : Nat} (hC : CX p s m args meth c cX4_size 5 RX4 (some .long) D T) (a0 : Nat) (x2 : Int32) (a3 : Nat) (h0 : kd a0 = 4) (h3 : kd a3 = 0) (M : Me) : GN p l e (k2_rm 2 44) s m args below meth c D T b 5 eL 63 [(0, .ref (b + a0)), (2, .int x2), (3, .ref (b + a3))] [] M (j_X4_size_63 a0 x2 a3 M) := by
  unfold j_X4_size_63
  refine n_iconst hC (0 : Int32) (by decide) dX4_size_63 ?_
  exact GN.sub [0, 1, 2] rfl (b_X4_size_64 hC a0 x2 a3 (0 : Int32) h0 h3 M)
def f_X4_size (M : Me) (a0 : Nat) (x1 : Int32) (x2 : Int32) : Option (Int64 × Me) := cal (f_X4_isUnknown M a0 x1) (fun r1 M2 => if r1 = (0 : Int32) then if x2 < (0 : Int32) then some ((-3 : Int64), M2) else if x2 ≤ (2 : Int32) then chk x1 (ln (rf a0 0)) (bndV (rf (rf a0 0) x1.toNatClampNeg) (fun v4 => if (M2.1 v4 5) = (2 : Int32) then cal (f_X4_faultOf M2 a0 (2 : Int32)) (fun r14 M15 => some (r14.toInt64, M15)) else if (M2.1 v4 5) = (1 : Int32) then if x2 = (0 : Int32) then j_X4_size_63 a0 x2 v4 M2 else j_X4_size_64 a0 x2 v4 (1 : Int32) M2 else j_X4_size_63 a0 x2 v4 M2)) else some ((-3 : Int64), M2) else some ((-2 : Int64), M2))
set_option maxHeartbeats 4000000 in
set_option maxRecDepth 100000 in
theorem c_X4_size (l : Launch) (M : Me) (a0 : Nat) (x1 : Int32) (x2 : Int32) (h0 : kd a0 = 4) : CN l yX4_size cX4_size 5 (some .long) (k2_rm 2 44) eL (fun b => [.ref (b + a0), .int x1, .int x2]) M (f_X4_size M a0 x1 x2) := by
  refine CN.of RX4 (fun b => [(0, .ref (b + a0)), (1, .int x1), (2, .int x2)]) (by decide) rfl (fun b => Nat.le_of_ble_eq_true rfl) (fun b => rfl) ?_
  intro p e s m args below meth c D T b hC
  unfold f_X4_size
  refine n_aload_n hC 0 rfl dX4_size_0 ?_
  refine n_iload_n hC 1 rfl dX4_size_1 ?_
  refine n_callVi (As := [.int x1]) (rest := []) h0 rfl (by decide) hC (c_X4_isUnknown l M a0 x1 h0) my_X4_isUnknown ml_X4_61 rfl rfl rfl (Nat.le_of_ble_eq_true rfl) ⟨by decide, by decide⟩ dX4_size_2 (fun r1 M2 => ?_)
  refine n_if_eq hC 12 dX4_size_5 (by decide) ?_ ?_
  · refine n_iload_n hC 2 rfl dX4_size_12 ?_
    refine n_if_lt hC 21 dX4_size_13 (by decide) ?_ ?_
    · refine n_ldc2 hC (-3 : Int64) kc_X4_201 dX4_size_21 ?_
      exact n_lret hC dX4_size_24
    refine n_iload_n hC 2 rfl dX4_size_16 ?_
    refine n_iconst hC (2 : Int32) (by decide) dX4_size_17 ?_
    refine n_icmp_le hC 25 dX4_size_18 (by decide) ?_ ?_
    · refine n_aload_n hC 0 rfl dX4_size_25 ?_
      refine n_get hC clX4 h0 0 (.ref (b + (rf a0 0))) (by decide) rfl fl_X4_11 rfl dX4_size_26 ?_
      refine n_iload_n hC 1 rfl dX4_size_29 ?_
      refine n_aaldE hC (kf_X4_0 h0) dX4_size_30 (fun g3 => ?_)
      refine n_astB_n hC rfl (ke_9 (kf_X4_0 h0) g3) (fun v4 => [(3, .ref (b + v4)), (0, .ref (b + a0)), (1, .int x1), (2, .int x2)]) (by decide) (fun _ => rfl) dX4_size_31 (fun v4 k5 => ?_)
      refine n_aload_n hC 0 rfl dX4_size_32 ?_
      refine n_get hC clX0 k5 5 (.int (M2.1 v4 5)) (by decide) rfl fl_X4_65 rfl dX4_size_33 ?_
      refine n_iconst hC (2 : Int32) (by decide) dX4_size_36 ?_
      refine n_icmp_ne hC 47 dX4_size_37 (by decide) ?_ ?_
      · refine n_aload_n hC 0 rfl dX4_size_47 ?_
        refine n_get hC clX0 k5 5 (.int (M2.1 v4 5)) (by decide) rfl fl_X4_65 rfl dX4_size_48 ?_
        refine n_iconst hC (1 : Int32) (by decide) dX4_size_51 ?_
        refine n_icmp_ne hC 63 dX4_size_52 (by decide) ?_ ?_
        · exact GN.sub [1, 3, 0] rfl (b_X4_size_63 hC a0 x2 v4 h0 k5 M2)
        refine n_iload_n hC 3 rfl dX4_size_55 ?_
        refine n_if_eq hC 63 dX4_size_56 (by decide) ?_ ?_
        · exact GN.sub [1, 3, 0] rfl (b_X4_size_63 hC a0 x2 v4 h0 k5 M2)
        refine n_iconst hC (1 : Int32) (by decide) dX4_size_59 ?_
        refine n_goto hC (tgt := 64) (by decide) dX4_size_60 ?_
        exact GN.sub [1, 3, 0] rfl (b_X4_size_64 hC a0 x2 v4 (1 : Int32) h0 k5 M2)
      refine n_aload_n hC 1 rfl dX4_size_40 ?_
      refine n_iconst hC (2 : Int32) (by decide) dX4_size_41 ?_
      refine n_callVi (As := [.int (2 : Int32)]) (rest := []) h0 rfl (by decide) hC (c_X4_faultOf l M2 a0 (2 : Int32) h0) my_X4_faultOf ml_X4_71 rfl rfl rfl (Nat.le_of_ble_eq_true rfl) ⟨by decide, by decide⟩ dX4_size_42 (fun r14 M15 => ?_)
      refine n_i2l hC dX4_size_45 ?_
      exact n_lret hC dX4_size_46
    refine n_ldc2 hC (-3 : Int64) kc_X4_201 dX4_size_21 ?_
    exact n_lret hC dX4_size_24
  refine n_ldc2 hC (-2 : Int64) kc_X4_199 dX4_size_8 ?_
  exact n_lret hC dX4_size_11
def j_X4_extra_89 (a0 : Nat) (M : Me) : Option (Int32 × Me) := cal (f_X4_faultOf M a0 (3 : Int32)) (fun r6 M7 => some (r6, M7))
set_option maxHeartbeats 4000000 in
set_option maxRecDepth 100000 in
theorem b_X4_extra_89 {p : Program} {l : Launch} {e : Env} {s : State} {m : MethodId} {args : Array Value} {below : List Frame} {meth : Method} {c : Code} {D : va_G} {T : Nat → ClassId} {b : Nat} (hC : CX p s m args meth c cX4_extra 6 RX4 (some .int) D T) (a0 : Nat) (h0 : kd a0 = 4) (M : Me) : GN p l e (k2_rm 1 21) s m args below meth c D T b 6 eI 89 [(0, .ref (b + a0))] [] M (j_X4_extra_89 a0 M) := by
  unfold j_X4_extra_89
  refine n_aload_n hC 0 rfl dX4_extra_89 ?_
  refine n_iconst hC (3 : Int32) (by decide) dX4_extra_90 ?_
  refine n_callVi (As := [.int (3 : Int32)]) (rest := []) h0 rfl (by decide) hC (c_X4_faultOf l M a0 (3 : Int32) h0) my_X4_faultOf ml_X4_71 rfl rfl rfl (Nat.le_of_ble_eq_true rfl) ⟨by decide, by decide⟩ dX4_extra_91 (fun r6 M7 => ?_)
  exact n_iret hC dX4_extra_94
def f_X4_extra (M : Me) (a0 : Nat) (x1 : Int32) (x2 : Int32) (x3 : Int32) (x4 : Int32) : Option (Int32 × Me) := cal (f_X4_isUnknown M a0 x1) (fun r1 M2 => if r1 = (0 : Int32) then chk x1 (ln (rf a0 0)) (bndV (rf (rf a0 0) x1.toNatClampNeg) (fun v4 => if x2 < (0 : Int32) then some ((-2 : Int32), M2) else if x2 < (M2.1 v4 9) then if x3 < (0 : Int32) then some ((-3 : Int32), M2) else if x3 ≤ (2 : Int32) then if x3 = (0 : Int32) then chk x2 (ln (rf v4 2)) (some ((M2.1 (rf v4 2) x2.toNatClampNeg), M2)) else if x3 = (1 : Int32) then chk x2 (ln (rf v4 3)) (some ((M2.1 (rf v4 3) x2.toNatClampNeg), M2)) else if x4 < (0 : Int32) then j_X4_extra_89 a0 M2 else chk x2 (ln (rf v4 3)) (if x4 < (M2.1 (rf v4 3) x2.toNatClampNeg) then chk ((x2 * (8 : Int32)) + x4) (ln (rf v4 4)) (some (((M2.1 (rf v4 4) ((x2 * (8 : Int32)) + x4).toNatClampNeg) &&& (255 : Int32)), M2)) else j_X4_extra_89 a0 M2) else some ((-3 : Int32), M2) else some ((-2 : Int32), M2))) else some ((-2 : Int32), M2))
set_option maxHeartbeats 4000000 in
set_option maxRecDepth 100000 in
theorem c_X4_extra (l : Launch) (M : Me) (a0 : Nat) (x1 : Int32) (x2 : Int32) (x3 : Int32) (x4 : Int32) (h0 : kd a0 = 4) : CN l yX4_extra cX4_extra 6 (some .int) (k2_rm 1 21) eI (fun b => [.ref (b + a0), .int x1, .int x2, .int x3, .int x4]) M (f_X4_extra M a0 x1 x2 x3 x4) := by
  refine CN.of RX4 (fun b => [(0, .ref (b + a0)), (1, .int x1), (2, .int x2), (3, .int x3), (4, .int x4)]) (by decide) rfl (fun b => Nat.le_of_ble_eq_true rfl) (fun b => rfl) ?_
  intro p e s m args below meth c D T b hC
  unfold f_X4_extra
  refine n_aload_n hC 0 rfl dX4_extra_0 ?_
  refine n_iload_n hC 1 rfl dX4_extra_1 ?_
  refine n_callVi (As := [.int x1]) (rest := []) h0 rfl (by decide) hC (c_X4_isUnknown l M a0 x1 h0) my_X4_isUnknown ml_X4_61 rfl rfl rfl (Nat.le_of_ble_eq_true rfl) ⟨by decide, by decide⟩ dX4_extra_2 (fun r1 M2 => ?_)
  refine n_if_eq hC 11 dX4_extra_5 (by decide) ?_ ?_
  · refine n_aload_n hC 0 rfl dX4_extra_11 ?_
    refine n_get hC clX4 h0 0 (.ref (b + (rf a0 0))) (by decide) rfl fl_X4_11 rfl dX4_extra_12 ?_
    refine n_iload_n hC 1 rfl dX4_extra_15 ?_
    refine n_aaldE hC (kf_X4_0 h0) dX4_extra_16 (fun g3 => ?_)
    refine n_astB hC (ke_9 (kf_X4_0 h0) g3) (fun v4 => [(5, .ref (b + v4)), (0, .ref (b + a0)), (1, .int x1), (2, .int x2), (3, .int x3), (4, .int x4)]) (by decide) (fun _ => rfl) dX4_extra_17 (fun v4 k5 => ?_)
    refine n_iload_n hC 3 rfl dX4_extra_19 ?_
    refine n_if_lt hC 32 dX4_extra_20 (by decide) ?_ ?_
    · refine n_bipush hC (-2 : Int32) (by decide) dX4_extra_32 ?_
      exact n_iret hC dX4_extra_34
    refine n_iload_n hC 3 rfl dX4_extra_23 ?_
    refine n_aload hC 0 rfl dX4_extra_24 ?_
    refine n_get hC clX0 k5 9 (.int (M2.1 v4 9)) (by decide) rfl fl_X4_100 rfl dX4_extra_26 ?_
    refine n_icmp_lt hC 35 dX4_extra_29 (by decide) ?_ ?_
    · refine n_iload_n hC 4 rfl dX4_extra_35 ?_
      refine n_if_lt hC 44 dX4_extra_36 (by decide) ?_ ?_
      · refine n_bipush hC (-3 : Int32) (by decide) dX4_extra_44 ?_
        exact n_iret hC dX4_extra_46
      refine n_iload_n hC 4 rfl dX4_extra_39 ?_
      refine n_iconst hC (2 : Int32) (by decide) dX4_extra_40 ?_
      refine n_icmp_le hC 47 dX4_extra_41 (by decide) ?_ ?_
      · refine n_iload_n hC 4 rfl dX4_extra_47 ?_
        refine n_if_ne hC 59 dX4_extra_48 (by decide) ?_ ?_
        · refine n_iload_n hC 4 rfl dX4_extra_59 ?_
          refine n_iconst hC (1 : Int32) (by decide) dX4_extra_60 ?_
          refine n_icmp_ne hC 72 dX4_extra_61 (by decide) ?_ ?_
          · refine n_iload hC 5 rfl dX4_extra_72 ?_
            refine n_if_lt hC 89 dX4_extra_74 (by decide) ?_ ?_
            · exact GN.sub [1] rfl (b_X4_extra_89 hC a0 h0 M2)
            refine n_iload hC 5 rfl dX4_extra_77 ?_
            refine n_aload hC 0 rfl dX4_extra_79 ?_
            refine n_get hC clX0 k5 3 (.ref (b + (rf v4 3))) (by decide) rfl fl_X4_107 rfl dX4_extra_81 ?_
            refine n_iload_n hC 3 rfl dX4_extra_84 ?_
            refine n_iald hC (kf_X0_3 k5) dX4_extra_85 (fun g8 => ?_)
            refine n_icmp_lt hC 95 dX4_extra_86 (by decide) ?_ ?_
            · refine n_aload hC 0 rfl dX4_extra_95 ?_
              refine n_get hC clX0 k5 4 (.ref (b + (rf v4 4))) (by decide) rfl fl_X4_110 rfl dX4_extra_97 ?_
              refine n_iload_n hC 3 rfl dX4_extra_100 ?_
              refine n_bipush hC (8 : Int32) (by decide) dX4_extra_101 ?_
              refine n_imul hC dX4_extra_103 ?_
              refine n_iload hC 5 rfl dX4_extra_104 ?_
              refine n_iadd hC dX4_extra_106 ?_
              refine n_bald hC (kf_X0_4 k5) dX4_extra_107 (fun g9 => ?_)
              refine n_sipush hC (255 : Int32) (by decide) dX4_extra_108 ?_
              refine n_iand hC dX4_extra_111 ?_
              exact n_iret hC dX4_extra_112
            exact GN.sub [1] rfl (b_X4_extra_89 hC a0 h0 M2)
          refine n_aload hC 0 rfl dX4_extra_64 ?_
          refine n_get hC clX0 k5 3 (.ref (b + (rf v4 3))) (by decide) rfl fl_X4_107 rfl dX4_extra_66 ?_
          refine n_iload_n hC 3 rfl dX4_extra_69 ?_
          refine n_iald hC (kf_X0_3 k5) dX4_extra_70 (fun g10 => ?_)
          exact n_iret hC dX4_extra_71
        refine n_aload hC 0 rfl dX4_extra_51 ?_
        refine n_get hC clX0 k5 2 (.ref (b + (rf v4 2))) (by decide) rfl fl_X4_103 rfl dX4_extra_53 ?_
        refine n_iload_n hC 3 rfl dX4_extra_56 ?_
        refine n_iald hC (kf_X0_2 k5) dX4_extra_57 (fun g11 => ?_)
        exact n_iret hC dX4_extra_58
      refine n_bipush hC (-3 : Int32) (by decide) dX4_extra_44 ?_
      exact n_iret hC dX4_extra_46
    refine n_bipush hC (-2 : Int32) (by decide) dX4_extra_32 ?_
    exact n_iret hC dX4_extra_34
  refine n_bipush hC (-2 : Int32) (by decide) dX4_extra_8 ?_
  exact n_iret hC dX4_extra_10
def f_X4_right (M : Me) (a0 : Nat) (x1 : Int32) : Option (Int32 × Me) := cal (f_X4_isUnknown M a0 x1) (fun r1 M2 => if r1 = (0 : Int32) then chk x1 (ln (rf a0 0)) (bndV (rf (rf a0 0) x1.toNatClampNeg) (fun v4 => if (M2.1 v4 5) = (1 : Int32) then some ((-4 : Int32), M2) else if (M2.1 v4 5) = (2 : Int32) then cal (f_X4_faultOf M2 a0 (2 : Int32)) (fun r14 M15 => some (r14, M15)) else cal (f_X0_lacksData M2 v4) (fun r6 M7 => if r6 = (0 : Int32) then cal (f_X0_sum M7 v4) (fun r8 M9 => cal (f_X4_sumOf M9 (rf v4 1) (M9.1 v4 8)) (fun r10 M11 => if r8 = r10 then some ((1 : Int32), M11) else some ((0 : Int32), M11))) else cal (f_X4_faultOf M7 a0 (1 : Int32)) (fun r12 M13 => some (r12, M13))))) else some ((-2 : Int32), M2))
set_option maxHeartbeats 4000000 in
set_option maxRecDepth 100000 in
theorem c_X4_right (l : Launch) (M : Me) (a0 : Nat) (x1 : Int32) (h0 : kd a0 = 4) : CN l yX4_right cX4_right 3 (some .int) (k2_rm 2 44) eI (fun b => [.ref (b + a0), .int x1]) M (f_X4_right M a0 x1) := by
  refine CN.of RX4 (fun b => [(0, .ref (b + a0)), (1, .int x1)]) (by decide) rfl (fun b => Nat.le_of_ble_eq_true rfl) (fun b => rfl) ?_
  intro p e s m args below meth c D T b hC
  unfold f_X4_right
  refine n_aload_n hC 0 rfl dX4_right_0 ?_
  refine n_iload_n hC 1 rfl dX4_right_1 ?_
  refine n_callVi (As := [.int x1]) (rest := []) h0 rfl (by decide) hC (c_X4_isUnknown l M a0 x1 h0) my_X4_isUnknown ml_X4_61 rfl rfl rfl (Nat.le_of_ble_eq_true rfl) ⟨by decide, by decide⟩ dX4_right_2 (fun r1 M2 => ?_)
  refine n_if_eq hC 11 dX4_right_5 (by decide) ?_ ?_
  · refine n_aload_n hC 0 rfl dX4_right_11 ?_
    refine n_get hC clX4 h0 0 (.ref (b + (rf a0 0))) (by decide) rfl fl_X4_11 rfl dX4_right_12 ?_
    refine n_iload_n hC 1 rfl dX4_right_15 ?_
    refine n_aaldE hC (kf_X4_0 h0) dX4_right_16 (fun g3 => ?_)
    refine n_astB_n hC rfl (ke_9 (kf_X4_0 h0) g3) (fun v4 => [(2, .ref (b + v4)), (0, .ref (b + a0)), (1, .int x1)]) (by decide) (fun _ => rfl) dX4_right_17 (fun v4 k5 => ?_)
    refine n_aload_n hC 0 rfl dX4_right_18 ?_
    refine n_get hC clX0 k5 5 (.int (M2.1 v4 5)) (by decide) rfl fl_X4_65 rfl dX4_right_19 ?_
    refine n_iconst hC (1 : Int32) (by decide) dX4_right_22 ?_
    refine n_icmp_ne hC 29 dX4_right_23 (by decide) ?_ ?_
    · refine n_aload_n hC 0 rfl dX4_right_29 ?_
      refine n_get hC clX0 k5 5 (.int (M2.1 v4 5)) (by decide) rfl fl_X4_65 rfl dX4_right_30 ?_
      refine n_iconst hC (2 : Int32) (by decide) dX4_right_33 ?_
      refine n_icmp_ne hC 43 dX4_right_34 (by decide) ?_ ?_
      · refine n_aload_n hC 0 rfl dX4_right_43 ?_
        refine n_callVi (As := []) (rest := []) k5 rfl (by decide) hC (c_X0_lacksData l M2 v4 k5) my_X0_lacksData ml_X4_198 rfl rfl rfl (Nat.le_of_ble_eq_true rfl) ⟨by decide, by decide⟩ dX4_right_44 (fun r6 M7 => ?_)
        refine n_if_eq hC 56 dX4_right_47 (by decide) ?_ ?_
        · refine n_aload_n hC 0 rfl dX4_right_56 ?_
          refine n_callVi (As := []) (rest := []) k5 rfl (by decide) hC (c_X0_sum l M7 v4 k5) my_X0_sum ml_X4_206 rfl rfl rfl (Nat.le_of_ble_eq_true rfl) ⟨by decide, by decide⟩ dX4_right_57 (fun r8 M9 => ?_)
          refine n_aload_n hC 0 rfl dX4_right_60 ?_
          refine n_get hC clX0 k5 1 (.ref (b + (rf v4 1))) (by decide) rfl fl_X4_78 rfl dX4_right_61 ?_
          refine n_aload_n hC 0 rfl dX4_right_64 ?_
          refine n_get hC clX0 k5 8 (.int (M9.1 v4 8)) (by decide) rfl fl_X4_75 rfl dX4_right_65 ?_
          refine n_callSi (As := [.ref (b + (rf v4 1)), .int (M9.1 v4 8)]) (rest := [.int r8]) hC (c_X4_sumOf l M9 (rf v4 1) (M9.1 v4 8) (kf_X0_1 k5)) my_X4_sumOf ml_X4_211 rfl rfl rfl (Nat.le_of_ble_eq_true rfl) ⟨by decide, by decide⟩ dX4_right_68 (fun r10 M11 => ?_)
          refine n_icmp_ne hC 78 dX4_right_71 (by decide) ?_ ?_
          · refine n_iconst hC (0 : Int32) (by decide) dX4_right_78 ?_
            exact n_iret hC dX4_right_79
          refine n_iconst hC (1 : Int32) (by decide) dX4_right_74 ?_
          refine n_goto hC (tgt := 79) (by decide) dX4_right_75 ?_
          exact n_iret hC dX4_right_79
        refine n_aload_n hC 1 rfl dX4_right_50 ?_
        refine n_iconst hC (1 : Int32) (by decide) dX4_right_51 ?_
        refine n_callVi (As := [.int (1 : Int32)]) (rest := []) h0 rfl (by decide) hC (c_X4_faultOf l M7 a0 (1 : Int32) h0) my_X4_faultOf ml_X4_71 rfl rfl rfl (Nat.le_of_ble_eq_true rfl) ⟨by decide, by decide⟩ dX4_right_52 (fun r12 M13 => ?_)
        exact n_iret hC dX4_right_55
      refine n_aload_n hC 1 rfl dX4_right_37 ?_
      refine n_iconst hC (2 : Int32) (by decide) dX4_right_38 ?_
      refine n_callVi (As := [.int (2 : Int32)]) (rest := []) h0 rfl (by decide) hC (c_X4_faultOf l M2 a0 (2 : Int32) h0) my_X4_faultOf ml_X4_71 rfl rfl rfl (Nat.le_of_ble_eq_true rfl) ⟨by decide, by decide⟩ dX4_right_39 (fun r14 M15 => ?_)
      exact n_iret hC dX4_right_42
    refine n_bipush hC (-4 : Int32) (by decide) dX4_right_26 ?_
    exact n_iret hC dX4_right_28
  refine n_bipush hC (-2 : Int32) (by decide) dX4_right_8 ?_
  exact n_iret hC dX4_right_10
def g_X4_same_13 (kx : Int32 → Me → Option (Int32 × Me)) (kb : Int32 × Me → Option (Int32 × Me)) (a0 : Nat) (x1 : Int32) (x2 : Int32) (M : Me) : Option (Int32 × Me) := if x1 ≤ x2 then kx x2 M else chk x2 (ln (rf a0 0)) (chk x1 (ln (rf a0 0)) (cal (f_X0_hasNameOf M (rf (rf a0 0) x2.toNatClampNeg) (rf (rf a0 0) x1.toNatClampNeg)) (fun r5 M6 => if r5 = (0 : Int32) then bndV (x2 + (1 : Int32)) (fun v7 => kb (v7, M6)) else kx x2 M6)))
set_option maxHeartbeats 4000000 in
set_option maxRecDepth 100000 in
theorem b_X4_same_13_g {p : Program} {l : Launch} {e : Env} {s : State} {m : MethodId} {args : Array Value} {below : List Frame} {meth : Method} {c : Code} {D : va_G} {T : Nat → ClassId} {b : Nat} (hC : CX p s m args meth c cX4_same 3 RX4 (some .int) D T) (a0 : Nat) (x1 : Int32) (x2 : Int32) (h0 : kd a0 = 4) (kx : Int32 → Me → Option (Int32 × Me)) (hkx : ∀ (x2 : Int32) (M : Me), GN p l e (k2_rm 1 22) s m args below meth c D T b 3 eI 42 [(2, .int x2)] [] M (kx x2 M)) (kb : Int32 × Me → Option (Int32 × Me)) (hkb : ∀ z : Int32 × Me, GN p l e (k2_rm 1 22) s m args below meth c D T b 3 eI 13 [(0, .ref (b + a0)), (1, .int x1), (2, .int z.1)] [] z.2 (kb z)) (M : Me) : GN p l e (k2_rm 1 22) s m args below meth c D T b 3 eI 13 [(0, .ref (b + a0)), (1, .int x1), (2, .int x2)] [] M (g_X4_same_13 kx kb a0 x1 x2 M) := by
  unfold g_X4_same_13
  refine n_iload_n hC 2 rfl dX4_same_13 ?_
  refine n_iload_n hC 1 rfl dX4_same_14 ?_
  refine n_icmp_ge hC 42 dX4_same_15 (by decide) ?_ ?_
  · exact GN.sub [2] rfl (hkx x2 M)
  refine n_aload_n hC 0 rfl dX4_same_18 ?_
  refine n_get hC clX4 h0 0 (.ref (b + (rf a0 0))) (by decide) rfl fl_X4_11 rfl dX4_same_19 ?_
  refine n_iload_n hC 2 rfl dX4_same_22 ?_
  refine n_aaldE hC (kf_X4_0 h0) dX4_same_23 (fun g3 => ?_)
  refine n_aload_n hC 0 rfl dX4_same_24 ?_
  refine n_get hC clX4 h0 0 (.ref (b + (rf a0 0))) (by decide) rfl fl_X4_11 rfl dX4_same_25 ?_
  refine n_iload_n hC 1 rfl dX4_same_28 ?_
  refine n_aaldE hC (kf_X4_0 h0) dX4_same_29 (fun g4 => ?_)
  refine n_callVi (As := [.ref (b + (rf (rf a0 0) x1.toNatClampNeg))]) (rest := []) (ke_9 (kf_X4_0 h0) g3) rfl (by decide) hC (c_X0_hasNameOf l M (rf (rf a0 0) x2.toNatClampNeg) (rf (rf a0 0) x1.toNatClampNeg) (ke_9 (kf_X4_0 h0) g3) (ke_9 (kf_X4_0 h0) g4)) my_X0_hasNameOf ml_X4_215 rfl rfl rfl (Nat.le_of_ble_eq_true rfl) ⟨by decide, by decide⟩ dX4_same_30 (fun r5 M6 => ?_)
  refine n_if_ne hC 42 dX4_same_33 (by decide) ?_ ?_
  · exact GN.sub [2] rfl (hkx x2 M6)
  refine n_iincB hC (1 : Int32) (by decide) (fun v7 => [(2, .int v7), (0, .ref (b + a0)), (1, .int x1)]) 2 rfl (by decide) (fun _ => rfl) dX4_same_36 (fun v7 => ?_)
  refine n_goto hC (tgt := 13) (by decide) dX4_same_39 ?_
  exact GN.sub [1, 2, 0] rfl (hkb (v7, M6))
def l_X4_same_13 (kx : Int32 → Me → Option (Int32 × Me)) (a0 : Nat) (x1 : Int32) (x2 : Int32) (M : Me) : Option (Int32 × Me) := lp (fun kb z => g_X4_same_13 kx kb a0 x1 z.1 z.2) FU (x2, M)
set_option maxHeartbeats 4000000 in
set_option maxRecDepth 100000 in
theorem b_X4_same_13 {p : Program} {l : Launch} {e : Env} {s : State} {m : MethodId} {args : Array Value} {below : List Frame} {meth : Method} {c : Code} {D : va_G} {T : Nat → ClassId} {b : Nat} (hC : CX p s m args meth c cX4_same 3 RX4 (some .int) D T) (a0 : Nat) (x1 : Int32) (x2 : Int32) (h0 : kd a0 = 4) (kx : Int32 → Me → Option (Int32 × Me)) (hkx : ∀ (x2 : Int32) (M : Me), GN p l e (k2_rm 1 22) s m args below meth c D T b 3 eI 42 [(2, .int x2)] [] M (kx x2 M)) (M : Me) : GN p l e (k2_rm 1 22) s m args below meth c D T b 3 eI 13 [(0, .ref (b + a0)), (1, .int x1), (2, .int x2)] [] M (l_X4_same_13 kx a0 x1 x2 M) := by
  exact n_loop (σ := Int32 × Me) (fun z => [(0, .ref (b + a0)), (1, .int x1), (2, .int z.1)]) (fun z => z.2) (fun kb hkb z => b_X4_same_13_g hC a0 x1 z.1 h0 kx hkx kb hkb z.2) FU (x2, M)
def f_X4_same (M : Me) (a0 : Nat) (x1 : Int32) : Option (Int32 × Me) := cal (f_X4_isUnknown M a0 x1) (fun r1 M2 => if r1 = (0 : Int32) then l_X4_same_13 (fun v8 M9 => some (v8, M9)) a0 x1 (0 : Int32) M2 else some ((-2 : Int32), M2))
set_option maxHeartbeats 4000000 in
set_option maxRecDepth 100000 in
theorem c_X4_same (l : Launch) (M : Me) (a0 : Nat) (x1 : Int32) (h0 : kd a0 = 4) : CN l yX4_same cX4_same 3 (some .int) (k2_rm 1 22) eI (fun b => [.ref (b + a0), .int x1]) M (f_X4_same M a0 x1) := by
  refine CN.of RX4 (fun b => [(0, .ref (b + a0)), (1, .int x1)]) (by decide) rfl (fun b => Nat.le_of_ble_eq_true rfl) (fun b => rfl) ?_
  intro p e s m args below meth c D T b hC
  unfold f_X4_same
  refine n_aload_n hC 0 rfl dX4_same_0 ?_
  refine n_iload_n hC 1 rfl dX4_same_1 ?_
  refine n_callVi (As := [.int x1]) (rest := []) h0 rfl (by decide) hC (c_X4_isUnknown l M a0 x1 h0) my_X4_isUnknown ml_X4_61 rfl rfl rfl (Nat.le_of_ble_eq_true rfl) ⟨by decide, by decide⟩ dX4_same_2 (fun r1 M2 => ?_)
  refine n_if_eq hC 11 dX4_same_5 (by decide) ?_ ?_
  · refine n_iconst hC (0 : Int32) (by decide) dX4_same_11 ?_
    refine n_istore_n hC rfl [(2, .int (0 : Int32)), (0, .ref (b + a0)), (1, .int x1)] (by decide) rfl dX4_same_12 ?_
    refine GN.sub [1, 2, 0] rfl (b_X4_same_13 hC a0 x1 (0 : Int32) h0 _ (fun v8 M9 => ?_) M2)
    refine n_iload_n hC 0 rfl dX4_same_42 ?_
    exact n_iret hC dX4_same_43
  refine n_bipush hC (-2 : Int32) (by decide) dX4_same_8 ?_
  exact n_iret hC dX4_same_10
def j_X4_told_32 (a0 : Nat) (M : Me) : Option (Int32 × Me) := some ((M.1 a0 4), M)
set_option maxHeartbeats 4000000 in
set_option maxRecDepth 100000 in
theorem b_X4_told_32 {p : Program} {l : Launch} {e : Env} {s : State} {m : MethodId} {args : Array Value} {below : List Frame} {meth : Method} {c : Code} {D : va_G} {T : Nat → ClassId} {b : Nat} (hC : CX p s m args meth c cX4_told 2 RX4 (some .int) D T) (a0 : Nat) (h0 : kd a0 = 4) (M : Me) : GN p l e (k2_rm 0 0) s m args below meth c D T b 2 eI 32 [(0, .ref (b + a0))] [] M (j_X4_told_32 a0 M) := by
  unfold j_X4_told_32
  refine n_aload_n hC 0 rfl dX4_told_32 ?_
  refine n_get hC clX4 h0 4 (.int (M.1 a0 4)) (by decide) rfl fl_X4_35 rfl dX4_told_33 ?_
  exact n_iret hC dX4_told_36
def j_X4_told_37 (a0 : Nat) (M : Me) : Option (Int32 × Me) := some ((M.1 (rf a0 1) 1), M)
set_option maxHeartbeats 4000000 in
set_option maxRecDepth 100000 in
theorem b_X4_told_37 {p : Program} {l : Launch} {e : Env} {s : State} {m : MethodId} {args : Array Value} {below : List Frame} {meth : Method} {c : Code} {D : va_G} {T : Nat → ClassId} {b : Nat} (hC : CX p s m args meth c cX4_told 2 RX4 (some .int) D T) (a0 : Nat) (h0 : kd a0 = 4) (M : Me) : GN p l e (k2_rm 0 0) s m args below meth c D T b 2 eI 37 [(0, .ref (b + a0))] [] M (j_X4_told_37 a0 M) := by
  unfold j_X4_told_37
  refine n_aload_n hC 0 rfl dX4_told_37 ?_
  refine n_get hC clX4 h0 1 (.ref (b + (rf a0 1))) (by decide) rfl fl_X4_18 rfl dX4_told_38 ?_
  refine n_get hC clX3 (kf_X4_1 h0) 1 (.int (M.1 (rf a0 1) 1)) (by decide) rfl fl_X4_130 rfl dX4_told_41 ?_
  exact n_iret hC dX4_told_44
def j_X4_told_45 (a0 : Nat) (M : Me) : Option (Int32 × Me) := some ((M.1 a0 5), M)
set_option maxHeartbeats 4000000 in
set_option maxRecDepth 100000 in
theorem b_X4_told_45 {p : Program} {l : Launch} {e : Env} {s : State} {m : MethodId} {args : Array Value} {below : List Frame} {meth : Method} {c : Code} {D : va_G} {T : Nat → ClassId} {b : Nat} (hC : CX p s m args meth c cX4_told 2 RX4 (some .int) D T) (a0 : Nat) (h0 : kd a0 = 4) (M : Me) : GN p l e (k2_rm 0 0) s m args below meth c D T b 2 eI 45 [(0, .ref (b + a0))] [] M (j_X4_told_45 a0 M) := by
  unfold j_X4_told_45
  refine n_aload_n hC 0 rfl dX4_told_45 ?_
  refine n_get hC clX4 h0 5 (.int (M.1 a0 5)) (by decide) rfl fl_X4_39 rfl dX4_told_46 ?_
  exact n_iret hC dX4_told_49
def j_X4_told_50 (a0 : Nat) (M : Me) : Option (Int32 × Me) := some ((M.1 a0 6), M)
set_option maxHeartbeats 4000000 in
set_option maxRecDepth 100000 in
theorem b_X4_told_50 {p : Program} {l : Launch} {e : Env} {s : State} {m : MethodId} {args : Array Value} {below : List Frame} {meth : Method} {c : Code} {D : va_G} {T : Nat → ClassId} {b : Nat} (hC : CX p s m args meth c cX4_told 2 RX4 (some .int) D T) (a0 : Nat) (h0 : kd a0 = 4) (M : Me) : GN p l e (k2_rm 0 0) s m args below meth c D T b 2 eI 50 [(0, .ref (b + a0))] [] M (j_X4_told_50 a0 M) := by
  unfold j_X4_told_50
  refine n_aload_n hC 0 rfl dX4_told_50 ?_
  refine n_get hC clX4 h0 6 (.int (M.1 a0 6)) (by decide) rfl fl_X4_42 rfl dX4_told_51 ?_
  exact n_iret hC dX4_told_54
def j_X4_told_55  (M : Me) : Option (Int32 × Me) := some ((-3 : Int32), M)
set_option maxHeartbeats 4000000 in
set_option maxRecDepth 100000 in
theorem b_X4_told_55 {p : Program} {l : Launch} {e : Env} {s : State} {m : MethodId} {args : Array Value} {below : List Frame} {meth : Method} {c : Code} {D : va_G} {T : Nat → ClassId} {b : Nat} (hC : CX p s m args meth c cX4_told 2 RX4 (some .int) D T)  (M : Me) : GN p l e (k2_rm 0 0) s m args below meth c D T b 2 eI 55 [] [] M (j_X4_told_55  M) := by
  unfold j_X4_told_55
  refine n_bipush hC (-3 : Int32) (by decide) dX4_told_55 ?_
  exact n_iret hC dX4_told_57
def f_X4_told (M : Me) (a0 : Nat) (x1 : Int32) : Option (Int32 × Me) := tsw x1 4 (fun i => match i with | 0 => j_X4_told_32 a0 M | 1 => j_X4_told_37 a0 M | 2 => j_X4_told_45 a0 M | 3 => j_X4_told_50 a0 M | _ => none) (j_X4_told_55 M)
set_option maxHeartbeats 4000000 in
set_option maxRecDepth 100000 in
theorem c_X4_told (l : Launch) (M : Me) (a0 : Nat) (x1 : Int32) (h0 : kd a0 = 4) : CN l yX4_told cX4_told 2 (some .int) (k2_rm 0 0) eI (fun b => [.ref (b + a0), .int x1]) M (f_X4_told M a0 x1) := by
  refine CN.of RX4 (fun b => [(0, .ref (b + a0)), (1, .int x1)]) (by decide) rfl (fun b => Nat.le_of_ble_eq_true rfl) (fun b => rfl) ?_
  intro p e s m args below meth c D T b hC
  unfold f_X4_told
  refine n_iload_n hC 1 rfl dX4_told_0 ?_
  refine n_tsw (n := 4) hC (fun i => match i with | 0 => 32 | 1 => 37 | 2 => 45 | 3 => 50 | _ => 55) 55 dX4_told_1 (by decide) (by decide) ?_ ?_ ?_
  · intro i hi
    match i, hi with
    | 0, _ => exact ⟨31, rfl, by decide⟩
    | 1, _ => exact ⟨36, rfl, by decide⟩
    | 2, _ => exact ⟨44, rfl, by decide⟩
    | 3, _ => exact ⟨49, rfl, by decide⟩
    | i + 4, h => exact absurd h (by omega)
  · intro i hi
    match i, hi with
    | 0, _ => exact GN.sub [0] rfl (b_X4_told_32 hC a0 h0 M)
    | 1, _ => exact GN.sub [0] rfl (b_X4_told_37 hC a0 h0 M)
    | 2, _ => exact GN.sub [0] rfl (b_X4_told_45 hC a0 h0 M)
    | 3, _ => exact GN.sub [0] rfl (b_X4_told_50 hC a0 h0 M)
    | i + 4, h => exact absurd h (by omega)
  exact GN.sub [] rfl (b_X4_told_55 hC  M)
