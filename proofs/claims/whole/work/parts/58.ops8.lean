/-! OPERATIONS that read THE BYTES -/
theorem OPL.fault {M : Me} {n z c : Nat} {v : Int32} (hi : IV M n z c) {FX FY : Me → Option (Int64 × Me)} (h1 : FX M = some ((-30 - v).toInt64, sI M 0 6 v)) (h2 : FY (sI M 0 6 v) = some ((-30 - v).toInt64, sI (sI (sI M 0 6 v) 91 0 0) 91 1 v)) : OPL FX FY M := by
  have hw := W1.mk (M := M) (a0 := 91) (k0 := 1) (v := v) (t := 0) (vd_h (by omega)) (msk_id (by omega))
  have hxb : XB (sI (sI (sI M 0 6 v) 91 0 0) 91 1 v) := ((hi.xb.up (by omega)).up (by omega)).up (by omega)
  exact ⟨_, _, _, h1, h2, ⟨n, z, c, hw.iv hi (by omega) hxb⟩⟩
theorem OPL.read {M : Me} {n z c : Nat} {r : Int64} (hi : IV M n z c) {FX FY : Me → Option (Int64 × Me)} (h1 : FX M = some (r, M)) (h2 : FY M = some (r, sI M 91 0 0)) : OPL FX FY M := ⟨r, M, sI M 91 0 0, h1, h2, ⟨n, z, c, hi.scr (by omega)⟩⟩
theorem nI_mn_toInt {z w : Nat} (h : z < 2 ^ 30) (hw : w < 2 ^ 30) : (nI z - nI w).toInt = (z : Int) - w := pk_sub_toInt h hw
theorem f_holds1 {M : Me} {z k w : Nat} (hz : M.1 2 1 = nI z) (hz2 : z ≤ 2000) (hw : w ≤ 4) (hk : k + w ≤ z) : f_X3_holds M 2 (nI k) (nI w) = some (1, M) := by
  unfold f_X3_holds
  rw [hz, if_neg (nI_pos (by omega)), if_neg (show ¬ nI z - nI w < nI k by rw [ltc, nI_mn_toInt (by omega) (by omega), nI_toInt (by omega)]; omega), chZ_1]
theorem f_holds0 {M : Me} {z w : Nat} {x : Int32} (hz : M.1 2 1 = nI z) (hz2 : z ≤ 2000) (hw : w ≤ 4) (hk : ¬ (0 ≤ x.toInt ∧ x.toInt ≤ (z : Int) - w)) : f_X3_holds M 2 x (nI w) = some (0, M) := by
  unfold f_X3_holds
  rw [hz]
  simp only [ltc, t3_0]
  rw [nI_mn_toInt (by omega) (by omega)]
  by_cases q : x.toInt < 0
  · rw [if_pos q, chZ_0]
  · rw [if_neg q, if_pos (by omega), chZ_0]
theorem i64_sub {z w : Nat} (h : z < 2 ^ 30) (hw : w < 2 ^ 30) : ((nI z).toInt64 - (nI w).toInt64).toInt = (z : Int) - w := by
  rw [Int64.toInt_sub, i64_toInt, i64_toInt, nI_toInt (by omega), nI_toInt (by omega)]
  exact Int.bmod_eq_of_le (by omega) (by omega)
theorem f_there1 {M : Me} {z k w : Nat} (hz : M.1 91 24 = nI z) (hz2 : z ≤ 2000) (hw : w ≤ 4) (hk : k + w ≤ z) : f_X5_isThere M 91 (nI k) (nI w) = some (1, M) := by
  unfold f_X5_isThere
  rw [hz, f_in, cal_s, i64_toInt, i64_sub (by omega) (by omega), t6_0, nI_toInt (by omega), if_pos (by omega), chZ_1]
theorem f_there0 {M : Me} {z w : Nat} {x : Int32} (hz : M.1 91 24 = nI z) (hz2 : z ≤ 2000) (hw : w ≤ 4) (hk : ¬ (0 ≤ x.toInt ∧ x.toInt ≤ (z : Int) - w)) : f_X5_isThere M 91 x (nI w) = some (0, M) := by
  unfold f_X5_isThere
  rw [hz, f_in, cal_s, i64_toInt, i64_sub (by omega) (by omega), t6_0, if_neg hk, chZ_0]
theorem op_at {M : Me} (h : INV M) (x : Int32) : OP (fun M => f_X4_at M 0 x) (fun M => f_X5_at M 91 x) M := by
  obtain ⟨n, z, c, hi⟩ := h
  have hz := hi.xz
  have hz2 := hi.1.2.1
  obtain ⟨b, hb, hx, hy⟩ := hi.bytes
  by_cases hr : 0 ≤ x.toInt ∧ x.toInt ≤ (z : Int) - (1 : Nat)
  · obtain ⟨k, e, h1, h2⟩ := nI_ofR hr.1 (by omega) hr.2
    subst e
    refine OP.read (r := nI (b k)) hi ?_ ?_
    · show f_X4_at M 0 (nI k) = _
      unfold f_X4_at
      rw [rf_0_1, show (1 : Int32) = nI 1 from rfl, f_holds1 hz hz2 (by omega) (by omega), cal_s, if_neg (by decide), f_n1 hb hx (by omega), cal_s]
    · show f_X5_at M 91 (nI k) = _
      unfold f_X5_at
      rw [bnd_s, show (1 : Int32) = nI 1 from rfl, f_there1 (by rw [sI_ne (by omega)]; exact hi.yz) hz2 (by omega) (by omega), cal_s, if_neg (by decide), rf_91_23, chk_n _ (show k < ln 111 by rw [ln_111]; omega) (by decide), nI_clamp (by omega), sI_ne (by omega), hy k (by omega)]
  · refine OP.fault (v := 3) hi ?_ ?_
    · show f_X4_at M 0 x = _
      unfold f_X4_at f_X4_faultOf
      rw [rf_0_1, show (1 : Int32) = nI 1 from rfl, f_holds0 hz hz2 (by omega) hr, cal_s, if_pos rfl]
      rfl
    · show f_X5_at (sI M 0 6 3) 91 x = _
      unfold f_X5_at f_X5_fails
      rw [bnd_s, show (1 : Int32) = nI 1 from rfl, f_there0 (by rw [sI_ne (by omega), sI_ne (by omega)]; exact hi.yz) hz2 (by omega) hr, cal_s, if_pos rfl]
      rfl
theorem op_half {M : Me} (h : INV M) (x : Int32) : OP (fun M => f_X4_half M 0 x) (fun M => f_X5_half M 91 x) M := by
  obtain ⟨n, z, c, hi⟩ := h
  have hz := hi.xz
  have hz2 := hi.1.2.1
  obtain ⟨b, hb, hx, hy⟩ := hi.bytes
  by_cases hr : 0 ≤ x.toInt ∧ x.toInt ≤ (z : Int) - (2 : Nat)
  · obtain ⟨k, e, h1, h2⟩ := nI_ofR hr.1 (by omega) hr.2
    subst e
    refine OP.read (r := nI (nm b k 2)) hi ?_ ?_
    · show f_X4_half M 0 (nI k) = _
      unfold f_X4_half
      rw [rf_0_1, show (2 : Int32) = nI 2 from rfl, f_holds1 hz hz2 (by omega) (by omega), cal_s, if_neg (by decide), f_n2 hb hx (by omega), cal_s]
    · show f_X5_half M 91 (nI k) = _
      unfold f_X5_half
      rw [bnd_s, show (2 : Int32) = nI 2 from rfl, f_there1 (by rw [sI_ne (by omega)]; exact hi.yz) hz2 (by omega) (by omega), cal_s, if_neg (by decide), f_two hb (hy.up (by decide)) (by omega), cal_s]
  · refine OP.fault (v := 3) hi ?_ ?_
    · show f_X4_half M 0 x = _
      unfold f_X4_half f_X4_faultOf
      rw [rf_0_1, show (2 : Int32) = nI 2 from rfl, f_holds0 hz hz2 (by omega) hr, cal_s, if_pos rfl]
      rfl
    · show f_X5_half (sI M 0 6 3) 91 x = _
      unfold f_X5_half f_X5_fails
      rw [bnd_s, show (2 : Int32) = nI 2 from rfl, f_there0 (by rw [sI_ne (by omega), sI_ne (by omega)]; exact hi.yz) hz2 (by omega) hr, cal_s, if_pos rfl]
      rfl
theorem op_word {M : Me} (h : INV M) (x : Int32) : OPL (fun M => f_X4_word M 0 x) (fun M => f_X5_word M 91 x) M := by
  obtain ⟨n, z, c, hi⟩ := h
  have hz := hi.xz
  have hz2 := hi.1.2.1
  obtain ⟨b, hb, hx, hy⟩ := hi.bytes
  by_cases hr : 0 ≤ x.toInt ∧ x.toInt ≤ (z : Int) - (4 : Nat)
  · obtain ⟨k, e, h1, h2⟩ := nI_ofR hr.1 (by omega) hr.2
    subst e
    refine OPL.read (r := lN (nm b k 4)) hi ?_ ?_
    · show f_X4_word M 0 (nI k) = _
      unfold f_X4_word
      rw [rf_0_1, show (4 : Int32) = nI 4 from rfl, f_holds1 hz hz2 (by omega) (by omega), cal_s, if_neg (by decide), f_n4 hb hx (by omega), cal_s]
    · show f_X5_word M 91 (nI k) = _
      unfold f_X5_word
      rw [bnd_s, show (4 : Int32) = nI 4 from rfl, f_there1 (by rw [sI_ne (by omega)]; exact hi.yz) hz2 (by omega) (by omega), cal_s, if_neg (by decide), f_four hb (hy.up (by decide)) (by omega), cal_s]
  · refine OPL.fault (v := 3) hi ?_ ?_
    · show f_X4_word M 0 x = _
      unfold f_X4_word f_X4_faultOf
      rw [rf_0_1, show (4 : Int32) = nI 4 from rfl, f_holds0 hz hz2 (by omega) hr, cal_s, if_pos rfl]
      rfl
    · show f_X5_word (sI M 0 6 3) 91 x = _
      unfold f_X5_word f_X5_fails
      rw [bnd_s, show (4 : Int32) = nI 4 from rfl, f_there0 (by rw [sI_ne (by omega), sI_ne (by omega)]; exact hi.yz) hz2 (by omega) hr, cal_s, if_pos rfl]
      rfl
theorem xor_nI (a b : Nat) : nI a ^^^ nI b = nI (a ^^^ b) := by
  apply Int32.toBitVec_inj.mp
  rw [Int32.toBitVec_xor]
  show BitVec.ofNat 32 a ^^^ BitVec.ofNat 32 b = BitVec.ofNat 32 (a ^^^ b)
  exact (BitVec.ofNat_xor).symm
theorem xor_lt {a b : Nat} (ha : a < 256) (hb : b < 256) : a ^^^ b < 256 := Nat.xor_lt_two_pow (n := 8) ha hb
theorem i8_255 (x : Int32) : x.toInt8.toInt32 &&& 255 = x &&& 255 := by
  apply Int32.toBitVec_inj.mp
  rw [Int32.toBitVec_and, Int32.toBitVec_and]
  apply BitVec.eq_of_getLsbD_eq
  intro i hi
  rw [BitVec.getLsbD_and, BitVec.getLsbD_and]
  by_cases h8 : i < 8
  · congr 1
    show (BitVec.signExtend 32 (x.toInt8.toBitVec)).getLsbD i = _
    rw [BitVec.getLsbD_signExtend]
    show (decide (i < 32) && if i < 8 then (BitVec.signExtend 8 x.toBitVec).getLsbD i else _) = _
    rw [if_pos h8, BitVec.getLsbD_signExtend]
    simp [hi, h8]
  · have : (255 : Int32).toBitVec.getLsbD i = false := by
      show (BitVec.ofNat 32 255).getLsbD i = false
      rw [BitVec.getLsbD_ofNat]
      have : Nat.testBit 255 i = false := Nat.testBit_lt_two_pow (Nat.lt_of_lt_of_le (by decide : 255 < 2 ^ 8) (Nat.pow_le_pow_right (by decide) (by omega)))
      simp [this]
    rw [this, Bool.and_false, Bool.and_false]
theorem op_poke {M : Me} (h : INV M) (x y : Int32) : OP (fun M => f_X4_poke M 0 x y) (fun M => f_X5_poke M 91 x y) M := by
  obtain ⟨n, z, c, hi⟩ := h
  have hz := hi.xz
  have hz2 := hi.1.2.1
  obtain ⟨b, hb, hx, hy⟩ := hi.bytes
  by_cases hr : 0 ≤ x.toInt ∧ x.toInt ≤ (z : Int) - (1 : Nat)
  · obtain ⟨k, e, h1, h2⟩ := nI_ofR hr.1 (by omega) hr.2
    subst e
    by_cases hm : 0 ≤ y.toInt ∧ y.toInt ≤ 255
    · obtain ⟨w, e, h3, h4⟩ := nI_ofR hm.1 (by omega) hm.2
      subst e
      have hv : ((M.1 3 k) ^^^ nI w).toInt8.toInt32 &&& 255 = nI (b k ^^^ w) := by
        rw [i8_255]
        have e1 : ((M.1 3 k) ^^^ nI w) &&& 255 = ((M.1 3 k) &&& 255) ^^^ (nI w &&& 255) := by
          apply Int32.toBitVec_inj.mp
          simp only [Int32.toBitVec_and, Int32.toBitVec_xor]
          apply BitVec.eq_of_getLsbD_eq
          intro i _
          simp only [BitVec.getLsbD_and, BitVec.getLsbD_xor]
          generalize (M.1 3 k).toBitVec.getLsbD i = p
          generalize (nI w).toBitVec.getLsbD i = q
          generalize (255 : Int32).toBitVec.getLsbD i = r
          cases p <;> cases q <;> cases r <;> rfl
        rw [e1, hx k (by omega), nI_and255, Nat.mod_eq_of_lt (by omega), xor_nI]
      have hlt : b k ^^^ w < 256 := xor_lt (hb.1 k) (by omega)
      obtain ⟨v, hvv⟩ : ∃ v, v = ((M.1 3 k) ^^^ nI w).toInt8.toInt32 := ⟨_, rfl⟩
      rw [← hvv] at hv
      refine ⟨nI (b k ^^^ w), sI M 3 k v, sI (sI (sI M 3 k v) 91 0 0) 111 k (nI (b k ^^^ w)), ?_, ?_, ?_⟩
      · show f_X4_poke M 0 (nI k) (nI w) = _
        unfold f_X4_poke f_X3_number1
        rw [rf_0_1, show (1 : Int32) = nI 1 from rfl, f_holds1 hz hz2 (by omega) (by omega), cal_s, if_neg (by decide), pk_vb, rf_2_0, nI_clamp (by omega), ← hvv]
        simp (disch := omega) only [cal_s, bnd_s, bndV_s, chZ_0, chZ_1, rf_0_0, rf_0_1, rf_0_2, rf_0_3, rf_2_0, rf_4_0, rf_4_1, rf_91_3, rf_91_4, rf_91_5, rf_91_6, rf_91_7, rf_91_8, rf_91_9, rf_91_10, rf_91_11, rf_91_12, rf_91_13, rf_91_14, rf_91_15, rf_91_16, rf_91_17, rf_91_18, rf_91_19, rf_91_20, rf_91_21, rf_91_23, rf_91_33, rf_91_42, rf_91_43, rf_E, rf_R, rf_e0, rf_e1, rf_e2, rf_e3, rf_e4, ln_e0, ln_e1, ln_e2, ln_e3, ln_e4, mu_16, mu_40, mu_3, mu_8, um_8, nI_add, nI_1, chk_n, ln_1, ln_3, ln_5, ln_18, ln_92, ln_93, ln_94, ln_95, ln_96, ln_97, ln_98, ln_99, ln_100, ln_101, ln_102, ln_103, ln_104, ln_105, ln_106, ln_107, ln_108, ln_109, ln_110, ln_111, ln_112, ln_113, ln_114, nI_clamp, sI_ne, sI_eq, ltc, lec, eqc, t3_m306674912, t3_m30, t3_m10, t3_m5, t3_m4, t3_m3, t3_m2, t3_m1, t3_0, t3_1, t3_2, t3_3, t3_4, t3_5, t3_6, t3_7, t3_8, t3_9, t3_10, t3_11, t3_12, t3_13, t3_14, t3_15, t3_16, t3_17, t3_18, t3_19, t3_20, t3_22, t3_24, t3_26, t3_28, t3_30, t3_31, t3_32, t3_38, t3_40, t3_42, t3_46, t3_47, t3_60, t3_92, t3_255, t3_512, t3_1980, t3_2000, t3_2048, t3_2107, t3_3600, t3_65535, t3_86399, t3_1000000, t6_m3, t6_m2, t6_0, t6_1, t6_2, t6_8, t6_12, t6_16, t6_20, t6_30, t6_31, t6_40, t6_45, t6_47, t6_255, t6_1980, t6_2107, t6_65535, t6_86399, t6_1000000, t6_33639248, t6_67324752, t6_101010256, t6_134695760, t6_4294967295, nI_toInt, i64_toInt, f_in, if_pos, if_neg, if_true, if_false, hv]
      · show f_X5_poke (sI M 3 k v) 91 (nI k) (nI w) = _
        unfold f_X5_poke
        have hyz := hi.yz
        have hyk := hy k (by omega)
        simp (disch := omega) only [cal_s, bnd_s, bndV_s, chZ_0, chZ_1, rf_0_0, rf_0_1, rf_0_2, rf_0_3, rf_2_0, rf_4_0, rf_4_1, rf_91_3, rf_91_4, rf_91_5, rf_91_6, rf_91_7, rf_91_8, rf_91_9, rf_91_10, rf_91_11, rf_91_12, rf_91_13, rf_91_14, rf_91_15, rf_91_16, rf_91_17, rf_91_18, rf_91_19, rf_91_20, rf_91_21, rf_91_23, rf_91_33, rf_91_42, rf_91_43, rf_E, rf_R, rf_e0, rf_e1, rf_e2, rf_e3, rf_e4, ln_e0, ln_e1, ln_e2, ln_e3, ln_e4, mu_16, mu_40, mu_3, mu_8, um_8, nI_add, nI_1, chk_n, ln_1, ln_3, ln_5, ln_18, ln_92, ln_93, ln_94, ln_95, ln_96, ln_97, ln_98, ln_99, ln_100, ln_101, ln_102, ln_103, ln_104, ln_105, ln_106, ln_107, ln_108, ln_109, ln_110, ln_111, ln_112, ln_113, ln_114, nI_clamp, sI_ne, sI_eq, ltc, lec, eqc, t3_m306674912, t3_m30, t3_m10, t3_m5, t3_m4, t3_m3, t3_m2, t3_m1, t3_0, t3_1, t3_2, t3_3, t3_4, t3_5, t3_6, t3_7, t3_8, t3_9, t3_10, t3_11, t3_12, t3_13, t3_14, t3_15, t3_16, t3_17, t3_18, t3_19, t3_20, t3_22, t3_24, t3_26, t3_28, t3_30, t3_31, t3_32, t3_38, t3_40, t3_42, t3_46, t3_47, t3_60, t3_92, t3_255, t3_512, t3_1980, t3_2000, t3_2048, t3_2107, t3_3600, t3_65535, t3_86399, t3_1000000, t6_m3, t6_m2, t6_0, t6_1, t6_2, t6_8, t6_12, t6_16, t6_20, t6_30, t6_31, t6_40, t6_45, t6_47, t6_255, t6_1980, t6_2107, t6_65535, t6_86399, t6_1000000, t6_33639248, t6_67324752, t6_101010256, t6_134695760, t6_4294967295, nI_toInt, i64_toInt, f_in, if_pos, if_neg, if_true, if_false, hyz, nI_m1_toInt, hyk, xor_nI]
      · have hX : WX [(111, k, nI (b k ^^^ w))] M (sI M 3 k v) := WX.nil.cons (a0 := 111) (k0 := k) (Or.inr ⟨by omega, by omega, show k < 2000 by omega⟩) ((if_pos (by omega)).trans hv)
        have hY : WY [(111, k, nI (b k ^^^ w))] (sI M 3 k v) (sI (sI (sI M 3 k v) 91 0 0) 111 k (nI (b k ^^^ w))) := (WY.nil.scr (by omega)).cons (by omega)
        exact ⟨n, z, c, WXY.iv hX hY hi (((hi.xb.up (by omega)).up (by omega)).up (by omega)) (by simp) (by simp) (by simp [byr]; exact ⟨_, hlt, rfl⟩) (by simp; omega) (fun j _ hE => hE.ups (by simp) (by simp))⟩
    · refine OP.read (r := -3) hi ?_ ?_
      · show f_X4_poke M 0 (nI k) y = _
        unfold f_X4_poke
        rw [rf_0_1, show (1 : Int32) = nI 1 from rfl, f_holds1 hz hz2 (by omega) (by omega), cal_s, if_neg (by decide)]
        rcases (show y.toInt < 0 ∨ 255 < y.toInt by omega) with q | q <;> simp (disch := omega) only [cal_s, bnd_s, bndV_s, chZ_0, chZ_1, rf_0_0, rf_0_1, rf_0_2, rf_0_3, rf_2_0, rf_4_0, rf_4_1, rf_91_3, rf_91_4, rf_91_5, rf_91_6, rf_91_7, rf_91_8, rf_91_9, rf_91_10, rf_91_11, rf_91_12, rf_91_13, rf_91_14, rf_91_15, rf_91_16, rf_91_17, rf_91_18, rf_91_19, rf_91_20, rf_91_21, rf_91_23, rf_91_33, rf_91_42, rf_91_43, rf_E, rf_R, rf_e0, rf_e1, rf_e2, rf_e3, rf_e4, ln_e0, ln_e1, ln_e2, ln_e3, ln_e4, mu_16, mu_40, mu_3, mu_8, um_8, nI_add, nI_1, chk_n, ln_1, ln_3, ln_5, ln_18, ln_92, ln_93, ln_94, ln_95, ln_96, ln_97, ln_98, ln_99, ln_100, ln_101, ln_102, ln_103, ln_104, ln_105, ln_106, ln_107, ln_108, ln_109, ln_110, ln_111, ln_112, ln_113, ln_114, nI_clamp, sI_ne, sI_eq, ltc, lec, eqc, t3_m306674912, t3_m30, t3_m10, t3_m5, t3_m4, t3_m3, t3_m2, t3_m1, t3_0, t3_1, t3_2, t3_3, t3_4, t3_5, t3_6, t3_7, t3_8, t3_9, t3_10, t3_11, t3_12, t3_13, t3_14, t3_15, t3_16, t3_17, t3_18, t3_19, t3_20, t3_22, t3_24, t3_26, t3_28, t3_30, t3_31, t3_32, t3_38, t3_40, t3_42, t3_46, t3_47, t3_60, t3_92, t3_255, t3_512, t3_1980, t3_2000, t3_2048, t3_2107, t3_3600, t3_65535, t3_86399, t3_1000000, t6_m3, t6_m2, t6_0, t6_1, t6_2, t6_8, t6_12, t6_16, t6_20, t6_30, t6_31, t6_40, t6_45, t6_47, t6_255, t6_1980, t6_2107, t6_65535, t6_86399, t6_1000000, t6_33639248, t6_67324752, t6_101010256, t6_134695760, t6_4294967295, nI_toInt, i64_toInt, f_in, if_pos, if_neg, if_true, if_false]
      · show f_X5_poke M 91 (nI k) y = _
        unfold f_X5_poke
        have hyz := hi.yz
        simp (disch := omega) only [cal_s, bnd_s, bndV_s, chZ_0, chZ_1, rf_0_0, rf_0_1, rf_0_2, rf_0_3, rf_2_0, rf_4_0, rf_4_1, rf_91_3, rf_91_4, rf_91_5, rf_91_6, rf_91_7, rf_91_8, rf_91_9, rf_91_10, rf_91_11, rf_91_12, rf_91_13, rf_91_14, rf_91_15, rf_91_16, rf_91_17, rf_91_18, rf_91_19, rf_91_20, rf_91_21, rf_91_23, rf_91_33, rf_91_42, rf_91_43, rf_E, rf_R, rf_e0, rf_e1, rf_e2, rf_e3, rf_e4, ln_e0, ln_e1, ln_e2, ln_e3, ln_e4, mu_16, mu_40, mu_3, mu_8, um_8, nI_add, nI_1, chk_n, ln_1, ln_3, ln_5, ln_18, ln_92, ln_93, ln_94, ln_95, ln_96, ln_97, ln_98, ln_99, ln_100, ln_101, ln_102, ln_103, ln_104, ln_105, ln_106, ln_107, ln_108, ln_109, ln_110, ln_111, ln_112, ln_113, ln_114, nI_clamp, sI_ne, sI_eq, ltc, lec, eqc, t3_m306674912, t3_m30, t3_m10, t3_m5, t3_m4, t3_m3, t3_m2, t3_m1, t3_0, t3_1, t3_2, t3_3, t3_4, t3_5, t3_6, t3_7, t3_8, t3_9, t3_10, t3_11, t3_12, t3_13, t3_14, t3_15, t3_16, t3_17, t3_18, t3_19, t3_20, t3_22, t3_24, t3_26, t3_28, t3_30, t3_31, t3_32, t3_38, t3_40, t3_42, t3_46, t3_47, t3_60, t3_92, t3_255, t3_512, t3_1980, t3_2000, t3_2048, t3_2107, t3_3600, t3_65535, t3_86399, t3_1000000, t6_m3, t6_m2, t6_0, t6_1, t6_2, t6_8, t6_12, t6_16, t6_20, t6_30, t6_31, t6_40, t6_45, t6_47, t6_255, t6_1980, t6_2107, t6_65535, t6_86399, t6_1000000, t6_33639248, t6_67324752, t6_101010256, t6_134695760, t6_4294967295, nI_toInt, i64_toInt, f_in, if_pos, if_neg, if_true, if_false, hyz, nI_m1_toInt]
  · refine OP.read (r := -2) hi ?_ ?_
    · show f_X4_poke M 0 x y = _
      unfold f_X4_poke
      rw [rf_0_1, show (1 : Int32) = nI 1 from rfl, f_holds0 hz hz2 (by omega) hr, cal_s, if_pos rfl]
    · show f_X5_poke M 91 x y = _
      unfold f_X5_poke
      have hyz := hi.yz
      rw [bnd_s, f_in, cal_s, i64_toInt, i64_toInt, sI_ne (by omega), hyz, nI_m1_toInt (by omega), t6_0, if_neg (show ¬ (0 ≤ x.toInt ∧ x.toInt ≤ (z : Int) - 1) from hr), if_pos rfl]
