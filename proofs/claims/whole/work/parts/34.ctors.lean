def f_X3_init (M : MG) (a0 : Nat) : Option (Unit × MG) := galA 6 2000 (a0 + 2) M (fun q1 M2 => bndG (sGR M2 a0 0 (some q1)) (fun M5 => bndG (sGI M5 a0 1 (0 : Int32)) (fun M7 => retC (a0 + 2) M7)))
set_option maxHeartbeats 4000000 in
set_option maxRecDepth 100000 in
theorem c_X3_init (l : Launch) (M : MG) (a0 : Nat) (h0 : kd a0 = 3) (hn : M.2.2.2 = a0 + 1) : CNA l yX3_init cX3_init 1 1 12 (a0 + 1) (a0 + 2) (fun b => [.ref (b + a0)]) M (f_X3_init M a0) := by
  refine CNA.of RX3 (fun b => [(0, .ref (b + a0))]) (by decide) rfl rfl (fun b => Nat.le_of_ble_eq_true rfl) (fun b => rfl) hn ?_
  intro p e s m args below meth c D T b hA
  unfold f_X3_init
  refine c_aload_n hA.1 0 rfl dX3_init_0 ?_
  refine c_obj hA wo_X3_3 woi woc (Nat.le_of_ble_eq_true rfl) (Nat.le_of_ble_eq_true rfl) dX3_init_1 ?_
  refine c_aload_n hA.1 0 rfl dX3_init_4 ?_
  refine c_sipush hA.1 (2000 : Int32) (by decide) dX3_init_5 ?_
  refine c_newa (N := 2000) hA (Or.inl ⟨rfl, rfl⟩) rfl (by decide) (by decide) wa_byte (by decide) dX3_init_8 (fun q1 M2 k3 g4 _ => ?_)
  refine c_putR hA clX3 (fun _ => by omega) h0 0 (by decide) rfl rfl (Or.inr ⟨_, rfl⟩) rfl fl_X3_9 dX3_init_10 (fun M5 g6 => ?_)
  refine c_aload_n hA.1 0 rfl dX3_init_13 ?_
  refine c_iconst hA.1 (0 : Int32) (by decide) dX3_init_14 ?_
  refine c_putI hA clX3 (fun _ => by omega) h0 1 (by decide) rfl rfl rfl fl_X3_15 dX3_init_15 (fun M7 g8 => ?_)
  exact c_vret hA dX3_init_18
def f_X2_init (M : MG) (a0 : Nat) : Option (Unit × MG) := bndG (sGI M a0 0 (0 : Int32)) (fun M1 => bndG (sGI M1 a0 1 (0 : Int32)) (fun M3 => bndG (sGI M3 a0 2 (0 : Int32)) (fun M5 => bndG (sGI M5 a0 3 (0 : Int32)) (fun M7 => bndG (sGI M7 a0 4 (0 : Int32)) (fun M9 => bndG (sGI M9 a0 5 (0 : Int32)) (fun M11 => bndG (sGI M11 a0 6 (0 : Int32)) (fun M13 => bndG (sGI M13 a0 7 (0 : Int32)) (fun M15 => bndG (sGI M15 a0 8 (0 : Int32)) (fun M17 => bndG (sGI M17 a0 9 (0 : Int32)) (fun M19 => bndG (sGI M19 a0 10 (0 : Int32)) (fun M21 => bndG (sGI M21 a0 11 (0 : Int32)) (fun M23 => bndG (sGL M23 a0 12 (0 : Int64)) (fun M25 => bndG (sGL M25 a0 13 (0 : Int64)) (fun M27 => bndG (sGL M27 a0 14 (0 : Int64)) (fun M29 => bndG (sGL M29 a0 15 (0 : Int64)) (fun M31 => bndG (sGL M31 a0 16 (0 : Int64)) (fun M33 => bndG (sGL M33 a0 17 (0 : Int64)) (fun M35 => bndG (sGI M35 a0 18 (0 : Int32)) (fun M37 => retC (a0 + 1) M37)))))))))))))))))))
set_option maxHeartbeats 4000000 in
set_option maxRecDepth 100000 in
theorem c_X2_init (l : Launch) (M : MG) (a0 : Nat) (h0 : kd a0 = 2) (hn : M.2.2.2 = a0 + 1) : CNA l yX2_init cX2_init 1 1 12 (a0 + 1) (a0 + 1) (fun b => [.ref (b + a0)]) M (f_X2_init M a0) := by
  refine CNA.of RX2 (fun b => [(0, .ref (b + a0))]) (by decide) rfl rfl (fun b => Nat.le_of_ble_eq_true rfl) (fun b => rfl) hn ?_
  intro p e s m args below meth c D T b hA
  unfold f_X2_init
  refine c_aload_n hA.1 0 rfl dX2_init_0 ?_
  refine c_obj hA wo_X2_3 woi woc (Nat.le_of_ble_eq_true rfl) (Nat.le_of_ble_eq_true rfl) dX2_init_1 ?_
  refine c_aload_n hA.1 0 rfl dX2_init_4 ?_
  refine c_iconst hA.1 (0 : Int32) (by decide) dX2_init_5 ?_
  refine c_putI hA clX2 (fun _ => by omega) h0 0 (by decide) rfl rfl rfl fl_X2_9 dX2_init_6 (fun M1 g2 => ?_)
  refine c_aload_n hA.1 0 rfl dX2_init_9 ?_
  refine c_iconst hA.1 (0 : Int32) (by decide) dX2_init_10 ?_
  refine c_putI hA clX2 (fun _ => by omega) h0 1 (by decide) rfl rfl rfl fl_X2_15 dX2_init_11 (fun M3 g4 => ?_)
  refine c_aload_n hA.1 0 rfl dX2_init_14 ?_
  refine c_iconst hA.1 (0 : Int32) (by decide) dX2_init_15 ?_
  refine c_putI hA clX2 (fun _ => by omega) h0 2 (by decide) rfl rfl rfl fl_X2_18 dX2_init_16 (fun M5 g6 => ?_)
  refine c_aload_n hA.1 0 rfl dX2_init_19 ?_
  refine c_iconst hA.1 (0 : Int32) (by decide) dX2_init_20 ?_
  refine c_putI hA clX2 (fun _ => by omega) h0 3 (by decide) rfl rfl rfl fl_X2_21 dX2_init_21 (fun M7 g8 => ?_)
  refine c_aload_n hA.1 0 rfl dX2_init_24 ?_
  refine c_iconst hA.1 (0 : Int32) (by decide) dX2_init_25 ?_
  refine c_putI hA clX2 (fun _ => by omega) h0 4 (by decide) rfl rfl rfl fl_X2_24 dX2_init_26 (fun M9 g10 => ?_)
  refine c_aload_n hA.1 0 rfl dX2_init_29 ?_
  refine c_iconst hA.1 (0 : Int32) (by decide) dX2_init_30 ?_
  refine c_putI hA clX2 (fun _ => by omega) h0 5 (by decide) rfl rfl rfl fl_X2_27 dX2_init_31 (fun M11 g12 => ?_)
  refine c_aload_n hA.1 0 rfl dX2_init_34 ?_
  refine c_iconst hA.1 (0 : Int32) (by decide) dX2_init_35 ?_
  refine c_putI hA clX2 (fun _ => by omega) h0 6 (by decide) rfl rfl rfl fl_X2_30 dX2_init_36 (fun M13 g14 => ?_)
  refine c_aload_n hA.1 0 rfl dX2_init_39 ?_
  refine c_iconst hA.1 (0 : Int32) (by decide) dX2_init_40 ?_
  refine c_putI hA clX2 (fun _ => by omega) h0 7 (by decide) rfl rfl rfl fl_X2_33 dX2_init_41 (fun M15 g16 => ?_)
  refine c_aload_n hA.1 0 rfl dX2_init_44 ?_
  refine c_iconst hA.1 (0 : Int32) (by decide) dX2_init_45 ?_
  refine c_putI hA clX2 (fun _ => by omega) h0 8 (by decide) rfl rfl rfl fl_X2_36 dX2_init_46 (fun M17 g18 => ?_)
  refine c_aload_n hA.1 0 rfl dX2_init_49 ?_
  refine c_iconst hA.1 (0 : Int32) (by decide) dX2_init_50 ?_
  refine c_putI hA clX2 (fun _ => by omega) h0 9 (by decide) rfl rfl rfl fl_X2_39 dX2_init_51 (fun M19 g20 => ?_)
  refine c_aload_n hA.1 0 rfl dX2_init_54 ?_
  refine c_iconst hA.1 (0 : Int32) (by decide) dX2_init_55 ?_
  refine c_putZ hA clX2 (fun _ => by omega) h0 10 (by decide) rfl rfl rfl fl_X2_42 (by decide) dX2_init_56 (fun M21 g22 => ?_)
  refine c_aload_n hA.1 0 rfl dX2_init_59 ?_
  refine c_iconst hA.1 (0 : Int32) (by decide) dX2_init_60 ?_
  refine c_putZ hA clX2 (fun _ => by omega) h0 11 (by decide) rfl rfl rfl fl_X2_46 (by decide) dX2_init_61 (fun M23 g24 => ?_)
  refine c_aload_n hA.1 0 rfl dX2_init_64 ?_
  refine c_lconst hA.1 (0 : Int64) (by decide) dX2_init_65 ?_
  refine c_putL hA clX2 (fun _ => by omega) h0 12 (by decide) rfl rfl rfl fl_X2_49 dX2_init_66 (fun M25 g26 => ?_)
  refine c_aload_n hA.1 0 rfl dX2_init_69 ?_
  refine c_lconst hA.1 (0 : Int64) (by decide) dX2_init_70 ?_
  refine c_putL hA clX2 (fun _ => by omega) h0 13 (by decide) rfl rfl rfl fl_X2_53 dX2_init_71 (fun M27 g28 => ?_)
  refine c_aload_n hA.1 0 rfl dX2_init_74 ?_
  refine c_lconst hA.1 (0 : Int64) (by decide) dX2_init_75 ?_
  refine c_putL hA clX2 (fun _ => by omega) h0 14 (by decide) rfl rfl rfl fl_X2_56 dX2_init_76 (fun M29 g30 => ?_)
  refine c_aload_n hA.1 0 rfl dX2_init_79 ?_
  refine c_lconst hA.1 (0 : Int64) (by decide) dX2_init_80 ?_
  refine c_putL hA clX2 (fun _ => by omega) h0 15 (by decide) rfl rfl rfl fl_X2_59 dX2_init_81 (fun M31 g32 => ?_)
  refine c_aload_n hA.1 0 rfl dX2_init_84 ?_
  refine c_lconst hA.1 (0 : Int64) (by decide) dX2_init_85 ?_
  refine c_putL hA clX2 (fun _ => by omega) h0 16 (by decide) rfl rfl rfl fl_X2_62 dX2_init_86 (fun M33 g34 => ?_)
  refine c_aload_n hA.1 0 rfl dX2_init_89 ?_
  refine c_lconst hA.1 (0 : Int64) (by decide) dX2_init_90 ?_
  refine c_putL hA clX2 (fun _ => by omega) h0 17 (by decide) rfl rfl rfl fl_X2_65 dX2_init_91 (fun M35 g36 => ?_)
  refine c_aload_n hA.1 0 rfl dX2_init_94 ?_
  refine c_iconst hA.1 (0 : Int32) (by decide) dX2_init_95 ?_
  refine c_putI hA clX2 (fun _ => by omega) h0 18 (by decide) rfl rfl rfl fl_X2_68 dX2_init_96 (fun M37 g38 => ?_)
  exact c_vret hA dX2_init_99
def f_X0_init (M : MG) (a0 : Nat) : Option (Unit × MG) := galA 6 16 (a0 + 6) M (fun q1 M2 => bndG (sGR M2 a0 0 (some q1)) (fun M5 => galA 6 40 (a0 + 6) M5 (fun q7 M8 => bndG (sGR M8 a0 1 (some q7)) (fun M11 => galA 7 3 (a0 + 6) M11 (fun q13 M14 => bndG (sGR M14 a0 2 (some q13)) (fun M17 => galA 7 3 (a0 + 6) M17 (fun q19 M20 => bndG (sGR M20 a0 3 (some q19)) (fun M23 => galA 6 24 (a0 + 6) M23 (fun q25 M26 => bndG (sGR M26 a0 4 (some q25)) (fun M29 => bndG (sGI M29 a0 5 (0 : Int32)) (fun M31 => bndG (sGI M31 a0 6 (0 : Int32)) (fun M33 => bndG (sGI M33 a0 7 (0 : Int32)) (fun M35 => bndG (sGI M35 a0 8 (0 : Int32)) (fun M37 => bndG (sGI M37 a0 9 (0 : Int32)) (fun M39 => bndG (sGI M39 a0 10 (0 : Int32)) (fun M41 => bndG (sGI M41 a0 11 (0 : Int32)) (fun M43 => bndG (sGI M43 a0 12 (0 : Int32)) (fun M45 => bndG (sGI M45 a0 13 (0 : Int32)) (fun M47 => bndG (sGI M47 a0 14 (0 : Int32)) (fun M49 => bndG (sGI M49 a0 15 (0 : Int32)) (fun M51 => bndG (sGI M51 a0 16 (0 : Int32)) (fun M53 => bndG (sGI M53 a0 17 (-1 : Int32)) (fun M55 => retC (a0 + 6) M55)))))))))))))))))))))))
set_option maxHeartbeats 4000000 in
set_option maxRecDepth 100000 in
theorem c_X0_init (l : Launch) (M : MG) (a0 : Nat) (h0 : kd a0 = 0) (hn : M.2.2.2 = a0 + 1) : CNA l yX0_init cX0_init 1 1 12 (a0 + 1) (a0 + 6) (fun b => [.ref (b + a0)]) M (f_X0_init M a0) := by
  refine CNA.of RX0 (fun b => [(0, .ref (b + a0))]) (by decide) rfl rfl (fun b => Nat.le_of_ble_eq_true rfl) (fun b => rfl) hn ?_
  intro p e s m args below meth c D T b hA
  unfold f_X0_init
  refine c_aload_n hA.1 0 rfl dX0_init_0 ?_
  refine c_obj hA wo_X0_3 woi woc (Nat.le_of_ble_eq_true rfl) (Nat.le_of_ble_eq_true rfl) dX0_init_1 ?_
  refine c_aload_n hA.1 0 rfl dX0_init_4 ?_
  refine c_bipush hA.1 (16 : Int32) (by decide) dX0_init_5 ?_
  refine c_newa (N := 16) hA (Or.inl ⟨rfl, rfl⟩) rfl (by decide) (by decide) wa_byte (by decide) dX0_init_7 (fun q1 M2 k3 g4 _ => ?_)
  refine c_putR hA clX0 (fun _ => by omega) h0 0 (by decide) rfl rfl (Or.inr ⟨_, rfl⟩) rfl fl_X0_9 dX0_init_9 (fun M5 g6 => ?_)
  refine c_aload_n hA.1 0 rfl dX0_init_12 ?_
  refine c_bipush hA.1 (40 : Int32) (by decide) dX0_init_13 ?_
  refine c_newa (N := 40) hA (Or.inl ⟨rfl, rfl⟩) rfl (by decide) (by decide) wa_byte (by decide) dX0_init_15 (fun q7 M8 k9 g10 _ => ?_)
  refine c_putR hA clX0 (fun _ => by omega) h0 1 (by decide) rfl rfl (Or.inr ⟨_, rfl⟩) rfl fl_X0_15 dX0_init_17 (fun M11 g12 => ?_)
  refine c_aload_n hA.1 0 rfl dX0_init_20 ?_
  refine c_iconst hA.1 (3 : Int32) (by decide) dX0_init_21 ?_
  refine c_newa (N := 3) hA (Or.inr (Or.inl ⟨rfl, rfl⟩)) rfl (by decide) (by decide) wa_int (by decide) dX0_init_22 (fun q13 M14 k15 g16 _ => ?_)
  refine c_putR hA clX0 (fun _ => by omega) h0 2 (by decide) rfl rfl (Or.inr ⟨_, rfl⟩) rfl fl_X0_18 dX0_init_24 (fun M17 g18 => ?_)
  refine c_aload_n hA.1 0 rfl dX0_init_27 ?_
  refine c_iconst hA.1 (3 : Int32) (by decide) dX0_init_28 ?_
  refine c_newa (N := 3) hA (Or.inr (Or.inl ⟨rfl, rfl⟩)) rfl (by decide) (by decide) wa_int (by decide) dX0_init_29 (fun q19 M20 k21 g22 _ => ?_)
  refine c_putR hA clX0 (fun _ => by omega) h0 3 (by decide) rfl rfl (Or.inr ⟨_, rfl⟩) rfl fl_X0_22 dX0_init_31 (fun M23 g24 => ?_)
  refine c_aload_n hA.1 0 rfl dX0_init_34 ?_
  refine c_bipush hA.1 (24 : Int32) (by decide) dX0_init_35 ?_
  refine c_newa (N := 24) hA (Or.inl ⟨rfl, rfl⟩) rfl (by decide) (by decide) wa_byte (by decide) dX0_init_37 (fun q25 M26 k27 g28 _ => ?_)
  refine c_putR hA clX0 (fun _ => by omega) h0 4 (by decide) rfl rfl (Or.inr ⟨_, rfl⟩) rfl fl_X0_25 dX0_init_39 (fun M29 g30 => ?_)
  refine c_aload_n hA.1 0 rfl dX0_init_42 ?_
  refine c_iconst hA.1 (0 : Int32) (by decide) dX0_init_43 ?_
  refine c_putI hA clX0 (fun _ => by omega) h0 5 (by decide) rfl rfl rfl fl_X0_28 dX0_init_44 (fun M31 g32 => ?_)
  refine c_aload_n hA.1 0 rfl dX0_init_47 ?_
  refine c_iconst hA.1 (0 : Int32) (by decide) dX0_init_48 ?_
  refine c_putI hA clX0 (fun _ => by omega) h0 6 (by decide) rfl rfl rfl fl_X0_32 dX0_init_49 (fun M33 g34 => ?_)
  refine c_aload_n hA.1 0 rfl dX0_init_52 ?_
  refine c_iconst hA.1 (0 : Int32) (by decide) dX0_init_53 ?_
  refine c_putI hA clX0 (fun _ => by omega) h0 7 (by decide) rfl rfl rfl fl_X0_35 dX0_init_54 (fun M35 g36 => ?_)
  refine c_aload_n hA.1 0 rfl dX0_init_57 ?_
  refine c_iconst hA.1 (0 : Int32) (by decide) dX0_init_58 ?_
  refine c_putI hA clX0 (fun _ => by omega) h0 8 (by decide) rfl rfl rfl fl_X0_38 dX0_init_59 (fun M37 g38 => ?_)
  refine c_aload_n hA.1 0 rfl dX0_init_62 ?_
  refine c_iconst hA.1 (0 : Int32) (by decide) dX0_init_63 ?_
  refine c_putI hA clX0 (fun _ => by omega) h0 9 (by decide) rfl rfl rfl fl_X0_41 dX0_init_64 (fun M39 g40 => ?_)
  refine c_aload_n hA.1 0 rfl dX0_init_67 ?_
  refine c_iconst hA.1 (0 : Int32) (by decide) dX0_init_68 ?_
  refine c_putZ hA clX0 (fun _ => by omega) h0 10 (by decide) rfl rfl rfl fl_X0_44 (by decide) dX0_init_69 (fun M41 g42 => ?_)
  refine c_aload_n hA.1 0 rfl dX0_init_72 ?_
  refine c_iconst hA.1 (0 : Int32) (by decide) dX0_init_73 ?_
  refine c_putZ hA clX0 (fun _ => by omega) h0 11 (by decide) rfl rfl rfl fl_X0_48 (by decide) dX0_init_74 (fun M43 g44 => ?_)
  refine c_aload_n hA.1 0 rfl dX0_init_77 ?_
  refine c_iconst hA.1 (0 : Int32) (by decide) dX0_init_78 ?_
  refine c_putI hA clX0 (fun _ => by omega) h0 12 (by decide) rfl rfl rfl fl_X0_51 dX0_init_79 (fun M45 g46 => ?_)
  refine c_aload_n hA.1 0 rfl dX0_init_82 ?_
  refine c_iconst hA.1 (0 : Int32) (by decide) dX0_init_83 ?_
  refine c_putI hA clX0 (fun _ => by omega) h0 13 (by decide) rfl rfl rfl fl_X0_54 dX0_init_84 (fun M47 g48 => ?_)
  refine c_aload_n hA.1 0 rfl dX0_init_87 ?_
  refine c_iconst hA.1 (0 : Int32) (by decide) dX0_init_88 ?_
  refine c_putI hA clX0 (fun _ => by omega) h0 14 (by decide) rfl rfl rfl fl_X0_57 dX0_init_89 (fun M49 g50 => ?_)
  refine c_aload_n hA.1 0 rfl dX0_init_92 ?_
  refine c_iconst hA.1 (0 : Int32) (by decide) dX0_init_93 ?_
  refine c_putI hA clX0 (fun _ => by omega) h0 15 (by decide) rfl rfl rfl fl_X0_60 dX0_init_94 (fun M51 g52 => ?_)
  refine c_aload_n hA.1 0 rfl dX0_init_97 ?_
  refine c_iconst hA.1 (0 : Int32) (by decide) dX0_init_98 ?_
  refine c_putI hA clX0 (fun _ => by omega) h0 16 (by decide) rfl rfl rfl fl_X0_63 dX0_init_99 (fun M53 g54 => ?_)
  refine c_aload_n hA.1 0 rfl dX0_init_102 ?_
  refine c_iconst hA.1 (-1 : Int32) (by decide) dX0_init_103 ?_
  refine c_putI hA clX0 (fun _ => by omega) h0 17 (by decide) rfl rfl rfl fl_X0_66 dX0_init_104 (fun M55 g56 => ?_)
  exact c_vret hA dX0_init_107
def g_X1_init_55 (kx : Int32 → MG → Option (Unit × MG)) (kb : Int32 × MG → Option (Unit × MG)) (a0 : Nat) (x2 : Int32) (M : MG) : Option (Unit × MG) := if (12 : Int32) ≤ x2 then kx x2 M else gR (M.2.2.1 a0 1) 10 M (fun q23 => galO 2 (a0 + 14) M (fun q26 M27 => calC (f_X2_init M27 q26) (q26 + 1) (a0 + 14) (fun M30 => chk x2 (ln q23) (bndG (sGR M30 q23 x2.toNatClampNeg (some q26)) (fun M32 => bndV (x2 + (1 : Int32)) (fun v34 => kb (v34, M32)))))))
set_option maxHeartbeats 4000000 in
set_option maxRecDepth 100000 in
theorem b_X1_init_55_g {p : Program} {l : Launch} {e : Env} {s : State} {m : MethodId} {args : Array Value} {below : List Frame} {meth : Method} {c : Code} {D : va_G} {T : Nat → ClassId} {b a0 : Nat} (hA : CXA p (rmC 2 32 ((a0 + 14) - (a0 + 1)) (sl (a0 + 14) - sl (a0 + 1))) s m args meth c cX1_init 3 RX1 D T b (a0 + 1) (a0 + 14)) (x2 : Int32) (h0 : kd a0 = 1) (kx : Int32 → MG → Option (Unit × MG)) (hkx : ∀ (x2 : Int32) (M : MG), GC p l e (rmC 2 32 ((a0 + 14) - (a0 + 1)) (sl (a0 + 14) - sl (a0 + 1))) s m args below meth c D T b 3 (a0 + 1) (a0 + 14) 80 [] [] M (kx x2 M)) (kb : Int32 × MG → Option (Unit × MG)) (hkb : ∀ z : Int32 × MG, GC p l e (rmC 2 32 ((a0 + 14) - (a0 + 1)) (sl (a0 + 14) - sl (a0 + 1))) s m args below meth c D T b 3 (a0 + 1) (a0 + 14) 55 [(0, .ref (b + a0)), (2, .int z.1)] [] z.2 (kb z)) (M : MG) : GC p l e (rmC 2 32 ((a0 + 14) - (a0 + 1)) (sl (a0 + 14) - sl (a0 + 1))) s m args below meth c D T b 3 (a0 + 1) (a0 + 14) 55 [(0, .ref (b + a0)), (2, .int x2)] [] M (g_X1_init_55 kx kb a0 x2 M) := by
  unfold g_X1_init_55
  refine c_iload_n hA.1 1 rfl dX1_init_55 ?_
  refine c_bipush hA.1 (12 : Int32) (by decide) dX1_init_56 ?_
  refine c_icmp_ge hA.1 80 dX1_init_58 (by decide) ?_ ?_
  · exact GC.sub [] rfl (hkx x2 M)
  refine c_aload_n hA.1 0 rfl dX1_init_61 ?_
  refine c_getR hA clX1 (fun _ => by omega) h0 1 (by decide) rfl (Or.inr ⟨_, rfl⟩) fl_X1_11 dX1_init_62 (fun q23 k24 g25 => ?_)
  refine c_iload_n hA.1 1 rfl dX1_init_65 ?_
  refine c_new hA clX2 wk_X1_9 wn_X2 wz_X2 dX1_init_66 (fun q26 M27 k28 g29 _ => ?_)
  refine c_dup hA.1 rfl dX1_init_69 ?_
  refine c_init (As := []) (rest := [.ref (b + q26), .int x2, .ref (b + q23)]) hA (c_X2_init l M27 q26 k28 (by omega)) (by omega) (by omega) my_X2_init (Or.inr ⟨_, mn_X1_43⟩) rfl rfl rfl (Nat.le_of_ble_eq_true rfl) ⟨Nat.le_of_ble_eq_true rfl, Nat.le_of_ble_eq_true rfl⟩ dX1_init_70 (fun M30 g31 => ?_)
  refine c_aast hA (fun _ => by omega) k24 (fun _ => by omega) k28 (Or.inr ⟨rfl, rfl, rfl⟩) dX1_init_73 (fun M32 g33 => ?_)
  refine c_iincB hA.1 (1 : Int32) (by decide) (fun v34 => [(2, .int v34), (0, .ref (b + a0))]) 1 rfl (by decide) (fun _ => rfl) dX1_init_74 (fun v34 => ?_)
  refine c_goto hA.1 (tgt := 55) (by decide) dX1_init_77 ?_
  exact GC.sub [1, 0] rfl (hkb (v34, M32))
def l_X1_init_55 (kx : Int32 → MG → Option (Unit × MG)) (a0 : Nat) (x2 : Int32) (M : MG) : Option (Unit × MG) := lp (fun kb z => g_X1_init_55 kx kb a0 z.1 z.2) FU (x2, M)
theorem b_X1_init_55 {p : Program} {l : Launch} {e : Env} {s : State} {m : MethodId} {args : Array Value} {below : List Frame} {meth : Method} {c : Code} {D : va_G} {T : Nat → ClassId} {b a0 : Nat} (hA : CXA p (rmC 2 32 ((a0 + 14) - (a0 + 1)) (sl (a0 + 14) - sl (a0 + 1))) s m args meth c cX1_init 3 RX1 D T b (a0 + 1) (a0 + 14)) (x2 : Int32) (h0 : kd a0 = 1) (kx : Int32 → MG → Option (Unit × MG)) (hkx : ∀ (x2 : Int32) (M : MG), GC p l e (rmC 2 32 ((a0 + 14) - (a0 + 1)) (sl (a0 + 14) - sl (a0 + 1))) s m args below meth c D T b 3 (a0 + 1) (a0 + 14) 80 [] [] M (kx x2 M)) (M : MG) : GC p l e (rmC 2 32 ((a0 + 14) - (a0 + 1)) (sl (a0 + 14) - sl (a0 + 1))) s m args below meth c D T b 3 (a0 + 1) (a0 + 14) 55 [(0, .ref (b + a0)), (2, .int x2)] [] M (l_X1_init_55 kx a0 x2 M) := by
  exact c_loop (σ := Int32 × MG) (fun z => [(0, .ref (b + a0)), (2, .int z.1)]) (fun z => z.2) (fun kb hkb z => b_X1_init_55_g hA z.1 h0 kx hkx kb hkb z.2) FU (x2, M)
def f_X1_init (M : MG) (a0 : Nat) (a1 : Nat) : Option (Unit × MG) := galA 10 12 (a0 + 14) M (fun q1 M2 => bndG (sGR M2 a0 1 (some q1)) (fun M5 => bndG (sGI M5 a0 2 (0 : Int32)) (fun M7 => bndG (sGI M7 a0 3 (0 : Int32)) (fun M9 => bndG (sGI M9 a0 4 (0 : Int32)) (fun M11 => bndG (sGI M11 a0 5 (0 : Int32)) (fun M13 => bndG (sGI M13 a0 6 (0 : Int32)) (fun M15 => bndG (sGI M15 a0 7 (0 : Int32)) (fun M17 => bndG (sGI M17 a0 8 (-1 : Int32)) (fun M19 => bndG (sGR M19 a0 0 (some a1)) (fun M21 => l_X1_init_55 (fun v35 M36 => retC (a0 + 14) M36) a0 (0 : Int32) M21))))))))))
set_option maxHeartbeats 4000000 in
set_option maxRecDepth 100000 in
theorem c_X1_init (l : Launch) (M : MG) (a0 : Nat) (a1 : Nat) (h0 : kd a0 = 1) (h1 : kd a1 = 3) (hn : M.2.2.2 = a0 + 1) : CNA l yX1_init cX1_init 3 2 32 (a0 + 1) (a0 + 14) (fun b => [.ref (b + a0), .ref (b + a1)]) M (f_X1_init M a0 a1) := by
  refine CNA.of RX1 (fun b => [(0, .ref (b + a0)), (1, .ref (b + a1))]) (by decide) rfl rfl (fun b => Nat.le_of_ble_eq_true rfl) (fun b => rfl) hn ?_
  intro p e s m args below meth c D T b hA
  unfold f_X1_init
  refine c_aload_n hA.1 0 rfl dX1_init_0 ?_
  refine c_obj hA wo_X1_3 woi woc (Nat.le_of_ble_eq_true rfl) (Nat.le_of_ble_eq_true rfl) dX1_init_1 ?_
  refine c_aload_n hA.1 0 rfl dX1_init_4 ?_
  refine c_bipush hA.1 (12 : Int32) (by decide) dX1_init_5 ?_
  refine c_anew (N := 12) hA hA.2.1.2 (Or.inr ⟨rfl, rfl⟩) (by decide) (by decide) wk_X1_9 (by decide) dX1_init_7 (fun q1 M2 k3 g4 _ => ?_)
  refine c_putR hA clX1 (fun _ => by omega) h0 1 (by decide) rfl rfl (Or.inr ⟨_, rfl⟩) rfl fl_X1_11 dX1_init_10 (fun M5 g6 => ?_)
  refine c_aload_n hA.1 0 rfl dX1_init_13 ?_
  refine c_iconst hA.1 (0 : Int32) (by decide) dX1_init_14 ?_
  refine c_putI hA clX1 (fun _ => by omega) h0 2 (by decide) rfl rfl rfl fl_X1_17 dX1_init_15 (fun M7 g8 => ?_)
  refine c_aload_n hA.1 0 rfl dX1_init_18 ?_
  refine c_iconst hA.1 (0 : Int32) (by decide) dX1_init_19 ?_
  refine c_putI hA clX1 (fun _ => by omega) h0 3 (by decide) rfl rfl rfl fl_X1_21 dX1_init_20 (fun M9 g10 => ?_)
  refine c_aload_n hA.1 0 rfl dX1_init_23 ?_
  refine c_iconst hA.1 (0 : Int32) (by decide) dX1_init_24 ?_
  refine c_putI hA clX1 (fun _ => by omega) h0 4 (by decide) rfl rfl rfl fl_X1_24 dX1_init_25 (fun M11 g12 => ?_)
  refine c_aload_n hA.1 0 rfl dX1_init_28 ?_
  refine c_iconst hA.1 (0 : Int32) (by decide) dX1_init_29 ?_
  refine c_putI hA clX1 (fun _ => by omega) h0 5 (by decide) rfl rfl rfl fl_X1_27 dX1_init_30 (fun M13 g14 => ?_)
  refine c_aload_n hA.1 0 rfl dX1_init_33 ?_
  refine c_iconst hA.1 (0 : Int32) (by decide) dX1_init_34 ?_
  refine c_putI hA clX1 (fun _ => by omega) h0 6 (by decide) rfl rfl rfl fl_X1_30 dX1_init_35 (fun M15 g16 => ?_)
  refine c_aload_n hA.1 0 rfl dX1_init_38 ?_
  refine c_iconst hA.1 (0 : Int32) (by decide) dX1_init_39 ?_
  refine c_putI hA clX1 (fun _ => by omega) h0 7 (by decide) rfl rfl rfl fl_X1_33 dX1_init_40 (fun M17 g18 => ?_)
  refine c_aload_n hA.1 0 rfl dX1_init_43 ?_
  refine c_iconst hA.1 (-1 : Int32) (by decide) dX1_init_44 ?_
  refine c_putI hA clX1 (fun _ => by omega) h0 8 (by decide) rfl rfl rfl fl_X1_36 dX1_init_45 (fun M19 g20 => ?_)
  refine c_aload_n hA.1 0 rfl dX1_init_48 ?_
  refine c_aload_n hA.1 1 rfl dX1_init_49 ?_
  refine c_putR hA clX1 (fun _ => by omega) h0 0 (by decide) rfl rfl (Or.inl ⟨_, rfl⟩) rfl fl_X1_39 dX1_init_50 (fun M21 g22 => ?_)
  refine c_iconst hA.1 (0 : Int32) (by decide) dX1_init_53 ?_
  refine c_istore_n hA.1 rfl [(2, .int (0 : Int32)), (0, .ref (b + a0)), (1, .ref (b + a1))] (by decide) rfl dX1_init_54 ?_
  refine GC.sub [1, 0] rfl (b_X1_init_55 hA (0 : Int32) h0 _ (fun v35 M36 => ?_) M21)
  exact c_vret hA dX1_init_80
def g_X4_init_69 (kx : Int32 → MG → Option (Unit × MG)) (kb : Int32 × MG → Option (Unit × MG)) (a0 : Nat) (x1 : Int32) (M : MG) : Option (Unit × MG) := if (12 : Int32) ≤ x1 then kx x1 M else gR (M.2.2.1 a0 0) 9 M (fun q40 => galO 0 (a0 + 91) M (fun q43 M44 => calC (f_X0_init M44 q43) (q43 + 6) (a0 + 91) (fun M47 => chk x1 (ln q40) (bndG (sGR M47 q40 x1.toNatClampNeg (some q43)) (fun M49 => bndV (x1 + (1 : Int32)) (fun v51 => kb (v51, M49)))))))
set_option maxHeartbeats 4000000 in
set_option maxRecDepth 100000 in
theorem b_X4_init_69_g {p : Program} {l : Launch} {e : Env} {s : State} {m : MethodId} {args : Array Value} {below : List Frame} {meth : Method} {c : Code} {D : va_G} {T : Nat → ClassId} {b a0 : Nat} (hA : CXA p (rmC 3 54 ((a0 + 91) - (a0 + 1)) (sl (a0 + 91) - sl (a0 + 1))) s m args meth c cX4_init 2 RX4 D T b (a0 + 1) (a0 + 91)) (x1 : Int32) (h0 : kd a0 = 4) (kx : Int32 → MG → Option (Unit × MG)) (hkx : ∀ (x1 : Int32) (M : MG), GC p l e (rmC 3 54 ((a0 + 91) - (a0 + 1)) (sl (a0 + 91) - sl (a0 + 1))) s m args below meth c D T b 2 (a0 + 1) (a0 + 91) 94 [] [] M (kx x1 M)) (kb : Int32 × MG → Option (Unit × MG)) (hkb : ∀ z : Int32 × MG, GC p l e (rmC 3 54 ((a0 + 91) - (a0 + 1)) (sl (a0 + 91) - sl (a0 + 1))) s m args below meth c D T b 2 (a0 + 1) (a0 + 91) 69 [(0, .ref (b + a0)), (1, .int z.1)] [] z.2 (kb z)) (M : MG) : GC p l e (rmC 3 54 ((a0 + 91) - (a0 + 1)) (sl (a0 + 91) - sl (a0 + 1))) s m args below meth c D T b 2 (a0 + 1) (a0 + 91) 69 [(0, .ref (b + a0)), (1, .int x1)] [] M (g_X4_init_69 kx kb a0 x1 M) := by
  unfold g_X4_init_69
  refine c_iload_n hA.1 1 rfl dX4_init_69 ?_
  refine c_bipush hA.1 (12 : Int32) (by decide) dX4_init_70 ?_
  refine c_icmp_ge hA.1 94 dX4_init_72 (by decide) ?_ ?_
  · exact GC.sub [] rfl (hkx x1 M)
  refine c_aload_n hA.1 0 rfl dX4_init_75 ?_
  refine c_getR hA clX4 (fun _ => by omega) h0 0 (by decide) rfl (Or.inr ⟨_, rfl⟩) fl_X4_11 dX4_init_76 (fun q40 k41 g42 => ?_)
  refine c_iload_n hA.1 1 rfl dX4_init_79 ?_
  refine c_new hA clX0 wk_X4_9 wn_X0 wz_X0 dX4_init_80 (fun q43 M44 k45 g46 _ => ?_)
  refine c_dup hA.1 rfl dX4_init_83 ?_
  refine c_init (As := []) (rest := [.ref (b + q43), .int x1, .ref (b + q40)]) hA (c_X0_init l M44 q43 k45 (by omega)) (by omega) (by omega) my_X0_init (Or.inr ⟨_, mn_X4_48⟩) rfl rfl rfl (Nat.le_of_ble_eq_true rfl) ⟨Nat.le_of_ble_eq_true rfl, Nat.le_of_ble_eq_true rfl⟩ dX4_init_84 (fun M47 g48 => ?_)
  refine c_aast hA (fun _ => by omega) k41 (fun _ => by omega) k45 (Or.inl ⟨rfl, rfl, rfl⟩) dX4_init_87 (fun M49 g50 => ?_)
  refine c_iincB hA.1 (1 : Int32) (by decide) (fun v51 => [(1, .int v51), (0, .ref (b + a0))]) 1 rfl (by decide) (fun _ => rfl) dX4_init_88 (fun v51 => ?_)
  refine c_goto hA.1 (tgt := 69) (by decide) dX4_init_91 ?_
  exact GC.sub [1, 0] rfl (hkb (v51, M49))
def l_X4_init_69 (kx : Int32 → MG → Option (Unit × MG)) (a0 : Nat) (x1 : Int32) (M : MG) : Option (Unit × MG) := lp (fun kb z => g_X4_init_69 kx kb a0 z.1 z.2) FU (x1, M)
theorem b_X4_init_69 {p : Program} {l : Launch} {e : Env} {s : State} {m : MethodId} {args : Array Value} {below : List Frame} {meth : Method} {c : Code} {D : va_G} {T : Nat → ClassId} {b a0 : Nat} (hA : CXA p (rmC 3 54 ((a0 + 91) - (a0 + 1)) (sl (a0 + 91) - sl (a0 + 1))) s m args meth c cX4_init 2 RX4 D T b (a0 + 1) (a0 + 91)) (x1 : Int32) (h0 : kd a0 = 4) (kx : Int32 → MG → Option (Unit × MG)) (hkx : ∀ (x1 : Int32) (M : MG), GC p l e (rmC 3 54 ((a0 + 91) - (a0 + 1)) (sl (a0 + 91) - sl (a0 + 1))) s m args below meth c D T b 2 (a0 + 1) (a0 + 91) 94 [] [] M (kx x1 M)) (M : MG) : GC p l e (rmC 3 54 ((a0 + 91) - (a0 + 1)) (sl (a0 + 91) - sl (a0 + 1))) s m args below meth c D T b 2 (a0 + 1) (a0 + 91) 69 [(0, .ref (b + a0)), (1, .int x1)] [] M (l_X4_init_69 kx a0 x1 M) := by
  exact c_loop (σ := Int32 × MG) (fun z => [(0, .ref (b + a0)), (1, .int z.1)]) (fun z => z.2) (fun kb hkb z => b_X4_init_69_g hA z.1 h0 kx hkx kb hkb z.2) FU (x1, M)
def f_X4_init (M : MG) (a0 : Nat) : Option (Unit × MG) := galA 9 12 (a0 + 91) M (fun q1 M2 => bndG (sGR M2 a0 0 (some q1)) (fun M5 => galO 3 (a0 + 91) M5 (fun q7 M8 => calC (f_X3_init M8 q7) (q7 + 2) (a0 + 91) (fun M11 => bndG (sGR M11 a0 1 (some q7)) (fun M13 => galO 1 (a0 + 91) M13 (fun q15 M16 => gR (M16.2.2.1 a0 1) 3 M16 (fun q19 => calC (f_X1_init M16 q15 q19) (q15 + 14) (a0 + 91) (fun M22 => bndG (sGR M22 a0 2 (some q15)) (fun M24 => galA 6 12 (a0 + 91) M24 (fun q26 M27 => bndG (sGR M27 a0 3 (some q26)) (fun M30 => bndG (sGI M30 a0 4 (0 : Int32)) (fun M32 => bndG (sGI M32 a0 5 (0 : Int32)) (fun M34 => bndG (sGI M34 a0 6 (0 : Int32)) (fun M36 => bndG (sGI M36 a0 7 (-1 : Int32)) (fun M38 => l_X4_init_69 (fun v52 M53 => retC (a0 + 91) M53) a0 (0 : Int32) M38)))))))))))))))
set_option maxHeartbeats 4000000 in
set_option maxRecDepth 100000 in
theorem c_X4_init (l : Launch) (M : MG) (a0 : Nat) (h0 : kd a0 = 4) (hn : M.2.2.2 = a0 + 1) : CNA l yX4_init cX4_init 2 3 54 (a0 + 1) (a0 + 91) (fun b => [.ref (b + a0)]) M (f_X4_init M a0) := by
  refine CNA.of RX4 (fun b => [(0, .ref (b + a0))]) (by decide) rfl rfl (fun b => Nat.le_of_ble_eq_true rfl) (fun b => rfl) hn ?_
  intro p e s m args below meth c D T b hA
  unfold f_X4_init
  refine c_aload_n hA.1 0 rfl dX4_init_0 ?_
  refine c_obj hA wo_X4_1 woi woc (Nat.le_of_ble_eq_true rfl) (Nat.le_of_ble_eq_true rfl) dX4_init_1 ?_
  refine c_aload_n hA.1 0 rfl dX4_init_4 ?_
  refine c_bipush hA.1 (12 : Int32) (by decide) dX4_init_5 ?_
  refine c_anew (N := 12) hA hA.2.1.1 (Or.inl ⟨rfl, rfl⟩) (by decide) (by decide) wk_X4_9 (by decide) dX4_init_7 (fun q1 M2 k3 g4 _ => ?_)
  refine c_putR hA clX4 (fun _ => by omega) h0 0 (by decide) rfl rfl (Or.inr ⟨_, rfl⟩) rfl fl_X4_11 dX4_init_10 (fun M5 g6 => ?_)
  refine c_aload_n hA.1 0 rfl dX4_init_13 ?_
  refine c_new hA clX3 wk_X4_15 wn_X3 wz_X3 dX4_init_14 (fun q7 M8 k9 g10 _ => ?_)
  refine c_dup hA.1 rfl dX4_init_17 ?_
  refine c_init (As := []) (rest := [.ref (b + q7), .ref (b + a0)]) hA (c_X3_init l M8 q7 k9 (by omega)) (by omega) (by omega) my_X3_init (Or.inr ⟨_, mn_X4_17⟩) rfl rfl rfl (Nat.le_of_ble_eq_true rfl) ⟨Nat.le_of_ble_eq_true rfl, Nat.le_of_ble_eq_true rfl⟩ dX4_init_18 (fun M11 g12 => ?_)
  refine c_putR hA clX4 (fun _ => by omega) h0 1 (by decide) rfl rfl (Or.inl ⟨_, rfl⟩) rfl fl_X4_18 dX4_init_21 (fun M13 g14 => ?_)
  refine c_aload_n hA.1 0 rfl dX4_init_24 ?_
  refine c_new hA clX1 wk_X4_22 wn_X1 wz_X1 dX4_init_25 (fun q15 M16 k17 g18 _ => ?_)
  refine c_dup hA.1 rfl dX4_init_28 ?_
  refine c_aload_n hA.1 0 rfl dX4_init_29 ?_
  refine c_getR hA clX4 (fun _ => by omega) h0 1 (by decide) rfl (Or.inl ⟨_, rfl⟩) fl_X4_18 dX4_init_30 (fun q19 k20 g21 => ?_)
  refine c_init (As := [.ref (b + q19)]) (rest := [.ref (b + q15), .ref (b + a0)]) hA (c_X1_init l M16 q15 q19 k17 k20 (by omega)) (by omega) (by omega) my_X1_init (Or.inl ml_X4_24) rfl rfl rfl (Nat.le_of_ble_eq_true rfl) ⟨Nat.le_of_ble_eq_true rfl, Nat.le_of_ble_eq_true rfl⟩ dX4_init_33 (fun M22 g23 => ?_)
  refine c_putR hA clX4 (fun _ => by omega) h0 2 (by decide) rfl rfl (Or.inl ⟨_, rfl⟩) rfl fl_X4_27 dX4_init_36 (fun M24 g25 => ?_)
  refine c_aload_n hA.1 0 rfl dX4_init_39 ?_
  refine c_bipush hA.1 (12 : Int32) (by decide) dX4_init_40 ?_
  refine c_newa (N := 12) hA (Or.inl ⟨rfl, rfl⟩) rfl (by decide) (by decide) wa_byte (by decide) dX4_init_42 (fun q26 M27 k28 g29 _ => ?_)
  refine c_putR hA clX4 (fun _ => by omega) h0 3 (by decide) rfl rfl (Or.inr ⟨_, rfl⟩) rfl fl_X4_31 dX4_init_44 (fun M30 g31 => ?_)
  refine c_aload_n hA.1 0 rfl dX4_init_47 ?_
  refine c_iconst hA.1 (0 : Int32) (by decide) dX4_init_48 ?_
  refine c_putI hA clX4 (fun _ => by omega) h0 4 (by decide) rfl rfl rfl fl_X4_35 dX4_init_49 (fun M32 g33 => ?_)
  refine c_aload_n hA.1 0 rfl dX4_init_52 ?_
  refine c_iconst hA.1 (0 : Int32) (by decide) dX4_init_53 ?_
  refine c_putI hA clX4 (fun _ => by omega) h0 5 (by decide) rfl rfl rfl fl_X4_39 dX4_init_54 (fun M34 g35 => ?_)
  refine c_aload_n hA.1 0 rfl dX4_init_57 ?_
  refine c_iconst hA.1 (0 : Int32) (by decide) dX4_init_58 ?_
  refine c_putI hA clX4 (fun _ => by omega) h0 6 (by decide) rfl rfl rfl fl_X4_42 dX4_init_59 (fun M36 g37 => ?_)
  refine c_aload_n hA.1 0 rfl dX4_init_62 ?_
  refine c_iconst hA.1 (-1 : Int32) (by decide) dX4_init_63 ?_
  refine c_putI hA clX4 (fun _ => by omega) h0 7 (by decide) rfl rfl rfl fl_X4_45 dX4_init_64 (fun M38 g39 => ?_)
  refine c_iconst hA.1 (0 : Int32) (by decide) dX4_init_67 ?_
  refine c_istore_n hA.1 rfl [(1, .int (0 : Int32)), (0, .ref (b + a0))] (by decide) rfl dX4_init_68 ?_
  refine GC.sub [1, 0] rfl (b_X4_init_69 hA (0 : Int32) h0 _ (fun v52 M53 => ?_) M38)
  exact c_vret hA dX4_init_94
def f_X5_init (M : MG) (a0 : Nat) : Option (Unit × MG) := galA 7 12 (a0 + 24) M (fun q1 M2 => bndG (sGR M2 a0 3 (some q1)) (fun M5 => galA 7 12 (a0 + 24) M5 (fun q7 M8 => bndG (sGR M8 a0 4 (some q7)) (fun M11 => galA 7 192 (a0 + 24) M11 (fun q13 M14 => bndG (sGR M14 a0 5 (some q13)) (fun M17 => galA 7 12 (a0 + 24) M17 (fun q19 M20 => bndG (sGR M20 a0 6 (some q19)) (fun M23 => galA 7 12 (a0 + 24) M23 (fun q25 M26 => bndG (sGR M26 a0 7 (some q25)) (fun M29 => galA 7 12 (a0 + 24) M29 (fun q31 M32 => bndG (sGR M32 a0 8 (some q31)) (fun M35 => galA 7 12 (a0 + 24) M35 (fun q37 M38 => bndG (sGR M38 a0 9 (some q37)) (fun M41 => galA 7 12 (a0 + 24) M41 (fun q43 M44 => bndG (sGR M44 a0 10 (some q43)) (fun M47 => galA 7 36 (a0 + 24) M47 (fun q49 M50 => bndG (sGR M50 a0 11 (some q49)) (fun M53 => galA 7 36 (a0 + 24) M53 (fun q55 M56 => bndG (sGR M56 a0 12 (some q55)) (fun M59 => galA 7 288 (a0 + 24) M59 (fun q61 M62 => bndG (sGR M62 a0 13 (some q61)) (fun M65 => galA 8 12 (a0 + 24) M65 (fun q67 M68 => bndG (sGR M68 a0 14 (some q67)) (fun M71 => galA 7 12 (a0 + 24) M71 (fun q73 M74 => bndG (sGR M74 a0 15 (some q73)) (fun M77 => galA 7 480 (a0 + 24) M77 (fun q79 M80 => bndG (sGR M80 a0 16 (some q79)) (fun M83 => galA 7 12 (a0 + 24) M83 (fun q85 M86 => bndG (sGR M86 a0 17 (some q85)) (fun M89 => galA 7 12 (a0 + 24) M89 (fun q91 M92 => bndG (sGR M92 a0 18 (some q91)) (fun M95 => galA 8 12 (a0 + 24) M95 (fun q97 M98 => bndG (sGR M98 a0 19 (some q97)) (fun M101 => galA 7 12 (a0 + 24) M101 (fun q103 M104 => bndG (sGR M104 a0 20 (some q103)) (fun M107 => galA 7 12 (a0 + 24) M107 (fun q109 M110 => bndG (sGR M110 a0 21 (some q109)) (fun M113 => galA 7 2100 (a0 + 24) M113 (fun q115 M116 => bndG (sGR M116 a0 23 (some q115)) (fun M119 => bndG (sGI M119 a0 26 (-1 : Int32)) (fun M121 => galA 7 12 (a0 + 24) M121 (fun q123 M124 => bndG (sGR M124 a0 33 (some q123)) (fun M127 => galA 7 12 (a0 + 24) M127 (fun q129 M130 => bndG (sGR M130 a0 42 (some q129)) (fun M133 => galA 7 12 (a0 + 24) M133 (fun q135 M136 => bndG (sGR M136 a0 43 (some q135)) (fun M139 => retC (a0 + 24) M139)))))))))))))))))))))))))))))))))))))))))))))))
set_option maxHeartbeats 4000000 in
set_option maxRecDepth 100000 in
theorem c_X5_init (l : Launch) (M : MG) (a0 : Nat) (h0 : kd a0 = 5) (hn : M.2.2.2 = a0 + 1) : CNA l yX5_init cX5_init 1 1 12 (a0 + 1) (a0 + 24) (fun b => [.ref (b + a0)]) M (f_X5_init M a0) := by
  refine CNA.of RX5 (fun b => [(0, .ref (b + a0))]) (by decide) rfl rfl (fun b => Nat.le_of_ble_eq_true rfl) (fun b => rfl) hn ?_
  intro p e s m args below meth c D T b hA
  unfold f_X5_init
  refine c_aload_n hA.1 0 rfl dX5_init_0 ?_
  refine c_obj hA wo_X5_299 woi woc (Nat.le_of_ble_eq_true rfl) (Nat.le_of_ble_eq_true rfl) dX5_init_1 ?_
  refine c_aload_n hA.1 0 rfl dX5_init_4 ?_
  refine c_bipush hA.1 (12 : Int32) (by decide) dX5_init_5 ?_
  refine c_newa (N := 12) hA (Or.inr (Or.inl ⟨rfl, rfl⟩)) rfl (by decide) (by decide) wa_int (by decide) dX5_init_7 (fun q1 M2 k3 g4 _ => ?_)
  refine c_putR hA clX5 (fun _ => by omega) h0 3 (by decide) rfl rfl (Or.inr ⟨_, rfl⟩) rfl fl_X5_72 dX5_init_9 (fun M5 g6 => ?_)
  refine c_aload_n hA.1 0 rfl dX5_init_12 ?_
  refine c_bipush hA.1 (12 : Int32) (by decide) dX5_init_13 ?_
  refine c_newa (N := 12) hA (Or.inr (Or.inl ⟨rfl, rfl⟩)) rfl (by decide) (by decide) wa_int (by decide) dX5_init_15 (fun q7 M8 k9 g10 _ => ?_)
  refine c_putR hA clX5 (fun _ => by omega) h0 4 (by decide) rfl rfl (Or.inr ⟨_, rfl⟩) rfl fl_X5_75 dX5_init_17 (fun M11 g12 => ?_)
  refine c_aload_n hA.1 0 rfl dX5_init_20 ?_
  refine c_sipush hA.1 (192 : Int32) (by decide) dX5_init_21 ?_
  refine c_newa (N := 192) hA (Or.inr (Or.inl ⟨rfl, rfl⟩)) rfl (by decide) (by decide) wa_int (by decide) dX5_init_24 (fun q13 M14 k15 g16 _ => ?_)
  refine c_putR hA clX5 (fun _ => by omega) h0 5 (by decide) rfl rfl (Or.inr ⟨_, rfl⟩) rfl fl_X5_78 dX5_init_26 (fun M17 g18 => ?_)
  refine c_aload_n hA.1 0 rfl dX5_init_29 ?_
  refine c_bipush hA.1 (12 : Int32) (by decide) dX5_init_30 ?_
  refine c_newa (N := 12) hA (Or.inr (Or.inl ⟨rfl, rfl⟩)) rfl (by decide) (by decide) wa_int (by decide) dX5_init_32 (fun q19 M20 k21 g22 _ => ?_)
  refine c_putR hA clX5 (fun _ => by omega) h0 6 (by decide) rfl rfl (Or.inr ⟨_, rfl⟩) rfl fl_X5_23 dX5_init_34 (fun M23 g24 => ?_)
  refine c_aload_n hA.1 0 rfl dX5_init_37 ?_
  refine c_bipush hA.1 (12 : Int32) (by decide) dX5_init_38 ?_
  refine c_newa (N := 12) hA (Or.inr (Or.inl ⟨rfl, rfl⟩)) rfl (by decide) (by decide) wa_int (by decide) dX5_init_40 (fun q25 M26 k27 g28 _ => ?_)
  refine c_putR hA clX5 (fun _ => by omega) h0 7 (by decide) rfl rfl (Or.inr ⟨_, rfl⟩) rfl fl_X5_27 dX5_init_42 (fun M29 g30 => ?_)
  refine c_aload_n hA.1 0 rfl dX5_init_45 ?_
  refine c_bipush hA.1 (12 : Int32) (by decide) dX5_init_46 ?_
  refine c_newa (N := 12) hA (Or.inr (Or.inl ⟨rfl, rfl⟩)) rfl (by decide) (by decide) wa_int (by decide) dX5_init_48 (fun q31 M32 k33 g34 _ => ?_)
  refine c_putR hA clX5 (fun _ => by omega) h0 8 (by decide) rfl rfl (Or.inr ⟨_, rfl⟩) rfl fl_X5_30 dX5_init_50 (fun M35 g36 => ?_)
  refine c_aload_n hA.1 0 rfl dX5_init_53 ?_
  refine c_bipush hA.1 (12 : Int32) (by decide) dX5_init_54 ?_
  refine c_newa (N := 12) hA (Or.inr (Or.inl ⟨rfl, rfl⟩)) rfl (by decide) (by decide) wa_int (by decide) dX5_init_56 (fun q37 M38 k39 g40 _ => ?_)
  refine c_putR hA clX5 (fun _ => by omega) h0 9 (by decide) rfl rfl (Or.inr ⟨_, rfl⟩) rfl fl_X5_33 dX5_init_58 (fun M41 g42 => ?_)
  refine c_aload_n hA.1 0 rfl dX5_init_61 ?_
  refine c_bipush hA.1 (12 : Int32) (by decide) dX5_init_62 ?_
  refine c_newa (N := 12) hA (Or.inr (Or.inl ⟨rfl, rfl⟩)) rfl (by decide) (by decide) wa_int (by decide) dX5_init_64 (fun q43 M44 k45 g46 _ => ?_)
  refine c_putR hA clX5 (fun _ => by omega) h0 10 (by decide) rfl rfl (Or.inr ⟨_, rfl⟩) rfl fl_X5_36 dX5_init_66 (fun M47 g48 => ?_)
  refine c_aload_n hA.1 0 rfl dX5_init_69 ?_
  refine c_bipush hA.1 (36 : Int32) (by decide) dX5_init_70 ?_
  refine c_newa (N := 36) hA (Or.inr (Or.inl ⟨rfl, rfl⟩)) rfl (by decide) (by decide) wa_int (by decide) dX5_init_72 (fun q49 M50 k51 g52 _ => ?_)
  refine c_putR hA clX5 (fun _ => by omega) h0 11 (by decide) rfl rfl (Or.inr ⟨_, rfl⟩) rfl fl_X5_96 dX5_init_74 (fun M53 g54 => ?_)
  refine c_aload_n hA.1 0 rfl dX5_init_77 ?_
  refine c_bipush hA.1 (36 : Int32) (by decide) dX5_init_78 ?_
  refine c_newa (N := 36) hA (Or.inr (Or.inl ⟨rfl, rfl⟩)) rfl (by decide) (by decide) wa_int (by decide) dX5_init_80 (fun q55 M56 k57 g58 _ => ?_)
  refine c_putR hA clX5 (fun _ => by omega) h0 12 (by decide) rfl rfl (Or.inr ⟨_, rfl⟩) rfl fl_X5_99 dX5_init_82 (fun M59 g60 => ?_)
  refine c_aload_n hA.1 0 rfl dX5_init_85 ?_
  refine c_sipush hA.1 (288 : Int32) (by decide) dX5_init_86 ?_
  refine c_newa (N := 288) hA (Or.inr (Or.inl ⟨rfl, rfl⟩)) rfl (by decide) (by decide) wa_int (by decide) dX5_init_89 (fun q61 M62 k63 g64 _ => ?_)
  refine c_putR hA clX5 (fun _ => by omega) h0 13 (by decide) rfl rfl (Or.inr ⟨_, rfl⟩) rfl fl_X5_102 dX5_init_91 (fun M65 g66 => ?_)
  refine c_aload_n hA.1 0 rfl dX5_init_94 ?_
  refine c_bipush hA.1 (12 : Int32) (by decide) dX5_init_95 ?_
  refine c_newa (N := 12) hA (Or.inr (Or.inr ⟨rfl, rfl⟩)) rfl (by decide) (by decide) wa_boolean (by decide) dX5_init_97 (fun q67 M68 k69 g70 _ => ?_)
  refine c_putR hA clX5 (fun _ => by omega) h0 14 (by decide) rfl rfl (Or.inr ⟨_, rfl⟩) rfl fl_X5_39 dX5_init_99 (fun M71 g72 => ?_)
  refine c_aload_n hA.1 0 rfl dX5_init_102 ?_
  refine c_bipush hA.1 (12 : Int32) (by decide) dX5_init_103 ?_
  refine c_newa (N := 12) hA (Or.inr (Or.inl ⟨rfl, rfl⟩)) rfl (by decide) (by decide) wa_int (by decide) dX5_init_105 (fun q73 M74 k75 g76 _ => ?_)
  refine c_putR hA clX5 (fun _ => by omega) h0 15 (by decide) rfl rfl (Or.inr ⟨_, rfl⟩) rfl fl_X5_43 dX5_init_107 (fun M77 g78 => ?_)
  refine c_aload_n hA.1 0 rfl dX5_init_110 ?_
  refine c_sipush hA.1 (480 : Int32) (by decide) dX5_init_111 ?_
  refine c_newa (N := 480) hA (Or.inr (Or.inl ⟨rfl, rfl⟩)) rfl (by decide) (by decide) wa_int (by decide) dX5_init_114 (fun q79 M80 k81 g82 _ => ?_)
  refine c_putR hA clX5 (fun _ => by omega) h0 16 (by decide) rfl rfl (Or.inr ⟨_, rfl⟩) rfl fl_X5_89 dX5_init_116 (fun M83 g84 => ?_)
  refine c_aload_n hA.1 0 rfl dX5_init_119 ?_
  refine c_bipush hA.1 (12 : Int32) (by decide) dX5_init_120 ?_
  refine c_newa (N := 12) hA (Or.inr (Or.inl ⟨rfl, rfl⟩)) rfl (by decide) (by decide) wa_int (by decide) dX5_init_122 (fun q85 M86 k87 g88 _ => ?_)
  refine c_putR hA clX5 (fun _ => by omega) h0 17 (by decide) rfl rfl (Or.inr ⟨_, rfl⟩) rfl fl_X5_46 dX5_init_124 (fun M89 g90 => ?_)
  refine c_aload_n hA.1 0 rfl dX5_init_127 ?_
  refine c_bipush hA.1 (12 : Int32) (by decide) dX5_init_128 ?_
  refine c_newa (N := 12) hA (Or.inr (Or.inl ⟨rfl, rfl⟩)) rfl (by decide) (by decide) wa_int (by decide) dX5_init_130 (fun q91 M92 k93 g94 _ => ?_)
  refine c_putR hA clX5 (fun _ => by omega) h0 18 (by decide) rfl rfl (Or.inr ⟨_, rfl⟩) rfl fl_X5_49 dX5_init_132 (fun M95 g96 => ?_)
  refine c_aload_n hA.1 0 rfl dX5_init_135 ?_
  refine c_bipush hA.1 (12 : Int32) (by decide) dX5_init_136 ?_
  refine c_newa (N := 12) hA (Or.inr (Or.inr ⟨rfl, rfl⟩)) rfl (by decide) (by decide) wa_boolean (by decide) dX5_init_138 (fun q97 M98 k99 g100 _ => ?_)
  refine c_putR hA clX5 (fun _ => by omega) h0 19 (by decide) rfl rfl (Or.inr ⟨_, rfl⟩) rfl fl_X5_52 dX5_init_140 (fun M101 g102 => ?_)
  refine c_aload_n hA.1 0 rfl dX5_init_143 ?_
  refine c_bipush hA.1 (12 : Int32) (by decide) dX5_init_144 ?_
  refine c_newa (N := 12) hA (Or.inr (Or.inl ⟨rfl, rfl⟩)) rfl (by decide) (by decide) wa_int (by decide) dX5_init_146 (fun q103 M104 k105 g106 _ => ?_)
  refine c_putR hA clX5 (fun _ => by omega) h0 20 (by decide) rfl rfl (Or.inr ⟨_, rfl⟩) rfl fl_X5_55 dX5_init_148 (fun M107 g108 => ?_)
  refine c_aload_n hA.1 0 rfl dX5_init_151 ?_
  refine c_bipush hA.1 (12 : Int32) (by decide) dX5_init_152 ?_
  refine c_newa (N := 12) hA (Or.inr (Or.inl ⟨rfl, rfl⟩)) rfl (by decide) (by decide) wa_int (by decide) dX5_init_154 (fun q109 M110 k111 g112 _ => ?_)
  refine c_putR hA clX5 (fun _ => by omega) h0 21 (by decide) rfl rfl (Or.inr ⟨_, rfl⟩) rfl fl_X5_115 dX5_init_156 (fun M113 g114 => ?_)
  refine c_aload_n hA.1 0 rfl dX5_init_159 ?_
  refine c_sipush hA.1 (2100 : Int32) (by decide) dX5_init_160 ?_
  refine c_newa (N := 2100) hA (Or.inr (Or.inl ⟨rfl, rfl⟩)) rfl (by decide) (by decide) wa_int (by decide) dX5_init_163 (fun q115 M116 k117 g118 _ => ?_)
  refine c_putR hA clX5 (fun _ => by omega) h0 23 (by decide) rfl rfl (Or.inr ⟨_, rfl⟩) rfl fl_X5_128 dX5_init_165 (fun M119 g120 => ?_)
  refine c_aload_n hA.1 0 rfl dX5_init_168 ?_
  refine c_iconst hA.1 (-1 : Int32) (by decide) dX5_init_169 ?_
  refine c_putI hA clX5 (fun _ => by omega) h0 26 (by decide) rfl rfl rfl fl_X5_286 dX5_init_170 (fun M121 g122 => ?_)
  refine c_aload_n hA.1 0 rfl dX5_init_173 ?_
  refine c_bipush hA.1 (12 : Int32) (by decide) dX5_init_174 ?_
  refine c_newa (N := 12) hA (Or.inr (Or.inl ⟨rfl, rfl⟩)) rfl (by decide) (by decide) wa_int (by decide) dX5_init_176 (fun q123 M124 k125 g126 _ => ?_)
  refine c_putR hA clX5 (fun _ => by omega) h0 33 (by decide) rfl rfl (Or.inr ⟨_, rfl⟩) rfl fl_X5_216 dX5_init_178 (fun M127 g128 => ?_)
  refine c_aload_n hA.1 0 rfl dX5_init_181 ?_
  refine c_bipush hA.1 (12 : Int32) (by decide) dX5_init_182 ?_
  refine c_newa (N := 12) hA (Or.inr (Or.inl ⟨rfl, rfl⟩)) rfl (by decide) (by decide) wa_int (by decide) dX5_init_184 (fun q129 M130 k131 g132 _ => ?_)
  refine c_putR hA clX5 (fun _ => by omega) h0 42 (by decide) rfl rfl (Or.inr ⟨_, rfl⟩) rfl fl_X5_267 dX5_init_186 (fun M133 g134 => ?_)
  refine c_aload_n hA.1 0 rfl dX5_init_189 ?_
  refine c_bipush hA.1 (12 : Int32) (by decide) dX5_init_190 ?_
  refine c_newa (N := 12) hA (Or.inr (Or.inl ⟨rfl, rfl⟩)) rfl (by decide) (by decide) wa_int (by decide) dX5_init_192 (fun q135 M136 k137 g138 _ => ?_)
  refine c_putR hA clX5 (fun _ => by omega) h0 43 (by decide) rfl rfl (Or.inr ⟨_, rfl⟩) rfl fl_X5_270 dX5_init_194 (fun M139 g140 => ?_)
  exact c_vret hA dX5_init_197
