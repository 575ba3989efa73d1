theorem t3_m306674912 : (-306674912 : Int32).toInt = -306674912 := by decide +kernel
theorem t3_m30 : (-30 : Int32).toInt = -30 := by decide +kernel
theorem t3_m10 : (-10 : Int32).toInt = -10 := by decide +kernel
theorem t3_m5 : (-5 : Int32).toInt = -5 := by decide +kernel
theorem t3_m4 : (-4 : Int32).toInt = -4 := by decide +kernel
theorem t3_m3 : (-3 : Int32).toInt = -3 := by decide +kernel
theorem t3_m2 : (-2 : Int32).toInt = -2 := by decide +kernel
theorem t3_m1 : (-1 : Int32).toInt = -1 := by decide +kernel
theorem t3_0 : (0 : Int32).toInt = 0 := by decide +kernel
theorem t3_1 : (1 : Int32).toInt = 1 := by decide +kernel
theorem t3_2 : (2 : Int32).toInt = 2 := by decide +kernel
theorem t3_3 : (3 : Int32).toInt = 3 := by decide +kernel
theorem t3_4 : (4 : Int32).toInt = 4 := by decide +kernel
theorem t3_5 : (5 : Int32).toInt = 5 := by decide +kernel
theorem t3_6 : (6 : Int32).toInt = 6 := by decide +kernel
theorem t3_7 : (7 : Int32).toInt = 7 := by decide +kernel
theorem t3_8 : (8 : Int32).toInt = 8 := by decide +kernel
theorem t3_9 : (9 : Int32).toInt = 9 := by decide +kernel
theorem t3_10 : (10 : Int32).toInt = 10 := by decide +kernel
theorem t3_11 : (11 : Int32).toInt = 11 := by decide +kernel
theorem t3_12 : (12 : Int32).toInt = 12 := by decide +kernel
theorem t3_13 : (13 : Int32).toInt = 13 := by decide +kernel
theorem t3_14 : (14 : Int32).toInt = 14 := by decide +kernel
theorem t3_15 : (15 : Int32).toInt = 15 := by decide +kernel
theorem t3_16 : (16 : Int32).toInt = 16 := by decide +kernel
theorem t3_17 : (17 : Int32).toInt = 17 := by decide +kernel
theorem t3_18 : (18 : Int32).toInt = 18 := by decide +kernel
theorem t3_19 : (19 : Int32).toInt = 19 := by decide +kernel
theorem t3_20 : (20 : Int32).toInt = 20 := by decide +kernel
theorem t3_22 : (22 : Int32).toInt = 22 := by decide +kernel
theorem t3_24 : (24 : Int32).toInt = 24 := by decide +kernel
theorem t3_26 : (26 : Int32).toInt = 26 := by decide +kernel
theorem t3_28 : (28 : Int32).toInt = 28 := by decide +kernel
theorem t3_30 : (30 : Int32).toInt = 30 := by decide +kernel
theorem t3_31 : (31 : Int32).toInt = 31 := by decide +kernel
theorem t3_32 : (32 : Int32).toInt = 32 := by decide +kernel
theorem t3_38 : (38 : Int32).toInt = 38 := by decide +kernel
theorem t3_40 : (40 : Int32).toInt = 40 := by decide +kernel
theorem t3_42 : (42 : Int32).toInt = 42 := by decide +kernel
theorem t3_46 : (46 : Int32).toInt = 46 := by decide +kernel
theorem t3_47 : (47 : Int32).toInt = 47 := by decide +kernel
theorem t3_60 : (60 : Int32).toInt = 60 := by decide +kernel
theorem t3_92 : (92 : Int32).toInt = 92 := by decide +kernel
theorem t3_255 : (255 : Int32).toInt = 255 := by decide +kernel
theorem t3_512 : (512 : Int32).toInt = 512 := by decide +kernel
theorem t3_1980 : (1980 : Int32).toInt = 1980 := by decide +kernel
theorem t3_2000 : (2000 : Int32).toInt = 2000 := by decide +kernel
theorem t3_2048 : (2048 : Int32).toInt = 2048 := by decide +kernel
theorem t3_2107 : (2107 : Int32).toInt = 2107 := by decide +kernel
theorem t3_3600 : (3600 : Int32).toInt = 3600 := by decide +kernel
theorem t3_65535 : (65535 : Int32).toInt = 65535 := by decide +kernel
theorem t3_86399 : (86399 : Int32).toInt = 86399 := by decide +kernel
theorem t3_1000000 : (1000000 : Int32).toInt = 1000000 := by decide +kernel
theorem t6_m3 : (-3 : Int64).toInt = -3 := by decide +kernel
theorem t6_m2 : (-2 : Int64).toInt = -2 := by decide +kernel
theorem t6_0 : (0 : Int64).toInt = 0 := by decide +kernel
theorem t6_1 : (1 : Int64).toInt = 1 := by decide +kernel
theorem t6_2 : (2 : Int64).toInt = 2 := by decide +kernel
theorem t6_8 : (8 : Int64).toInt = 8 := by decide +kernel
theorem t6_12 : (12 : Int64).toInt = 12 := by decide +kernel
theorem t6_16 : (16 : Int64).toInt = 16 := by decide +kernel
theorem t6_20 : (20 : Int64).toInt = 20 := by decide +kernel
theorem t6_30 : (30 : Int64).toInt = 30 := by decide +kernel
theorem t6_31 : (31 : Int64).toInt = 31 := by decide +kernel
theorem t6_40 : (40 : Int64).toInt = 40 := by decide +kernel
theorem t6_45 : (45 : Int64).toInt = 45 := by decide +kernel
theorem t6_47 : (47 : Int64).toInt = 47 := by decide +kernel
theorem t6_255 : (255 : Int64).toInt = 255 := by decide +kernel
theorem t6_1980 : (1980 : Int64).toInt = 1980 := by decide +kernel
theorem t6_2107 : (2107 : Int64).toInt = 2107 := by decide +kernel
theorem t6_65535 : (65535 : Int64).toInt = 65535 := by decide +kernel
theorem t6_86399 : (86399 : Int64).toInt = 86399 := by decide +kernel
theorem t6_1000000 : (1000000 : Int64).toInt = 1000000 := by decide +kernel
theorem t6_33639248 : (33639248 : Int64).toInt = 33639248 := by decide +kernel
theorem t6_67324752 : (67324752 : Int64).toInt = 67324752 := by decide +kernel
theorem t6_101010256 : (101010256 : Int64).toInt = 101010256 := by decide +kernel
theorem t6_134695760 : (134695760 : Int64).toInt = 134695760 := by decide +kernel
theorem t6_4294967295 : (4294967295 : Int64).toInt = 4294967295 := by decide +kernel
theorem rf_0_0 : rf 0 0 = 1 := rfl
theorem rf_0_1 : rf 0 1 = 2 := rfl
theorem rf_0_2 : rf 0 2 = 4 := rfl
theorem rf_0_3 : rf 0 3 = 18 := rfl
theorem rf_2_0 : rf 2 0 = 3 := rfl
theorem rf_4_0 : rf 4 0 = 2 := rfl
theorem rf_4_1 : rf 4 1 = 5 := rfl
theorem rf_91_3 : rf 91 3 = 92 := rfl
theorem rf_91_4 : rf 91 4 = 93 := rfl
theorem rf_91_5 : rf 91 5 = 94 := rfl
theorem rf_91_6 : rf 91 6 = 95 := rfl
theorem rf_91_7 : rf 91 7 = 96 := rfl
theorem rf_91_8 : rf 91 8 = 97 := rfl
theorem rf_91_9 : rf 91 9 = 98 := rfl
theorem rf_91_10 : rf 91 10 = 99 := rfl
theorem rf_91_11 : rf 91 11 = 100 := rfl
theorem rf_91_12 : rf 91 12 = 101 := rfl
theorem rf_91_13 : rf 91 13 = 102 := rfl
theorem rf_91_14 : rf 91 14 = 103 := rfl
theorem rf_91_15 : rf 91 15 = 104 := rfl
theorem rf_91_16 : rf 91 16 = 105 := rfl
theorem rf_91_17 : rf 91 17 = 106 := rfl
theorem rf_91_18 : rf 91 18 = 107 := rfl
theorem rf_91_19 : rf 91 19 = 108 := rfl
theorem rf_91_20 : rf 91 20 = 109 := rfl
theorem rf_91_21 : rf 91 21 = 110 := rfl
theorem rf_91_23 : rf 91 23 = 111 := rfl
theorem rf_91_33 : rf 91 33 = 112 := rfl
theorem rf_91_42 : rf 91 42 = 113 := rfl
theorem rf_91_43 : rf 91 43 = 114 := rfl
theorem ln_1 : ln 1 = 12 := rfl
theorem ln_3 : ln 3 = 2000 := rfl
theorem ln_5 : ln 5 = 12 := rfl
theorem ln_18 : ln 18 = 12 := rfl
theorem ln_92 : ln 92 = 12 := rfl
theorem ln_93 : ln 93 = 12 := rfl
theorem ln_94 : ln 94 = 192 := rfl
theorem ln_95 : ln 95 = 12 := rfl
theorem ln_96 : ln 96 = 12 := rfl
theorem ln_97 : ln 97 = 12 := rfl
theorem ln_98 : ln 98 = 12 := rfl
theorem ln_99 : ln 99 = 12 := rfl
theorem ln_100 : ln 100 = 36 := rfl
theorem ln_101 : ln 101 = 36 := rfl
theorem ln_102 : ln 102 = 288 := rfl
theorem ln_103 : ln 103 = 12 := rfl
theorem ln_104 : ln 104 = 12 := rfl
theorem ln_105 : ln 105 = 480 := rfl
theorem ln_106 : ln 106 = 12 := rfl
theorem ln_107 : ln 107 = 12 := rfl
theorem ln_108 : ln 108 = 12 := rfl
theorem ln_109 : ln 109 = 12 := rfl
theorem ln_110 : ln 110 = 12 := rfl
theorem ln_111 : ln 111 = 2100 := rfl
theorem ln_112 : ln 112 = 12 := rfl
theorem ln_113 : ln 113 = 12 := rfl
theorem ln_114 : ln 114 = 12 := rfl
theorem ltc (x c : Int32) : (x < c) = (x.toInt < c.toInt) := propext Int32.lt_iff_toInt_lt
theorem lec (x c : Int32) : (x ≤ c) = (x.toInt ≤ c.toInt) := propext Int32.le_iff_toInt_le
theorem eqc (x c : Int32) : (x = c) = (x.toInt = c.toInt) := propext Int32.toInt_inj.symm
theorem sI_ne {M : Me} {a k b j : Nat} {v : Int32} (h : ¬ (b = a ∧ j = k)) : (sI M a k v).1 b j = M.1 b j := by rw [sI_1, up2_at, if_neg h]
theorem sI_eq {M : Me} {a k : Nat} {v : Int32} : (sI M a k v).1 a k = v := by rw [sI_1, up2_at, if_pos ⟨rfl, rfl⟩]
theorem ch0_n {γ : Type} {x : Int32} (A : Option γ) (h : x ≠ 0) : ch0 x A = A := if_neg h
theorem nI_of_toInt {x : Int32} {k : Nat} (h : x.toInt = (k : Int)) (hk : k < 2 ^ 31) : x = nI k := Int32.toInt_inj.mp (by rw [h, nI_toInt hk])
theorem nI_ofR {x : Int32} {a b : Int} (h1 : a ≤ x.toInt) (h0 : 0 ≤ a) (h2 : x.toInt ≤ b) : ∃ k : Nat, x = nI k ∧ a ≤ (k : Int) ∧ (k : Int) ≤ b := by
  have hl := x.toInt_lt
  refine ⟨x.toInt.toNat, nI_of_toInt (by omega) (by omega), by omega, by omega⟩
theorem rf_e0 {i : Nat} (hi : i < 12) : rf (19 + 6 * i) 0 = 20 + 6 * i := rf_e hi
theorem rf_e1 {i : Nat} (hi : i < 12) : rf (19 + 6 * i) 1 = 21 + 6 * i := (rf_e hi).trans (by omega)
theorem rf_e2 {i : Nat} (hi : i < 12) : rf (19 + 6 * i) 2 = 22 + 6 * i := (rf_e hi).trans (by omega)
theorem rf_e3 {i : Nat} (hi : i < 12) : rf (19 + 6 * i) 3 = 23 + 6 * i := (rf_e hi).trans (by omega)
theorem rf_e4 {i : Nat} (hi : i < 12) : rf (19 + 6 * i) 4 = 24 + 6 * i := (rf_e hi).trans (by omega)
theorem ln_e0 {i : Nat} (hi : i < 12) : ln (20 + 6 * i) = 16 := ln_E (s := 0) hi (by decide)
theorem ln_e1 {i : Nat} (hi : i < 12) : ln (21 + 6 * i) = 40 := by rw [show 21 + 6 * i = 20 + 6 * i + 1 by omega]; exact ln_E (s := 1) hi (by decide)
theorem ln_e2 {i : Nat} (hi : i < 12) : ln (22 + 6 * i) = 3 := by rw [show 22 + 6 * i = 20 + 6 * i + 2 by omega]; exact ln_E (s := 2) hi (by decide)
theorem ln_e3 {i : Nat} (hi : i < 12) : ln (23 + 6 * i) = 3 := by rw [show 23 + 6 * i = 20 + 6 * i + 3 by omega]; exact ln_E (s := 3) hi (by decide)
theorem ln_e4 {i : Nat} (hi : i < 12) : ln (24 + 6 * i) = 24 := by rw [show 24 + 6 * i = 20 + 6 * i + 4 by omega]; exact ln_E (s := 4) hi (by decide)
theorem mu_16 (i : Nat) : (16 : Int32) * nI i = nI (16 * i) := pk_mul 16 i
theorem mu_40 (i : Nat) : (40 : Int32) * nI i = nI (40 * i) := pk_mul 40 i
theorem mu_3 (i : Nat) : (3 : Int32) * nI i = nI (3 * i) := pk_mul 3 i
theorem mu_8 (i : Nat) : (8 : Int32) * nI i = nI (8 * i) := pk_mul 8 i
theorem um_8 (i : Nat) : nI i * (8 : Int32) = nI (i * 8) := pk_mul i 8
theorem su_1 {i : Nat} (h : 1 ≤ i) : nI i - (1 : Int32) = nI (i - 1) := pk_sub h
