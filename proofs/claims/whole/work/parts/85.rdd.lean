/-! THE REFERENCE's look at one row, whole -/
theorem ft_361 {M : Me} {x1 x2 x4 s : Int32} (h : ¬ M.1 91 27 = 0) : j_X5_checkRow_361 91 x1 x2 x4 s 91 M = some ((), M) := by
  unfold j_X5_checkRow_361
  rw [w_s h, cal_s, if_neg h]
theorem ft_314 {M : Me} {x1 x2 x4 : Int32} (h : ¬ M.1 91 27 = 0) : j_X5_checkRow_314 91 x1 x2 x4 91 M = some ((), M) := by
  unfold j_X5_checkRow_314 j_X5_checkRow_360 j_X5_checkRow_356
  rw [f_in, cal_s, f_in, cal_s, ft_361 h, ft_361 h]
  repeat' split
  all_goals rfl
theorem ft_288 {M : Me} {x1 x2 x3 x4 s : Int32} (h : ¬ M.1 91 27 = 0) : j_X5_checkRow_288 91 x1 x2 x3 x4 s 91 M = some ((), M) := by
  unfold j_X5_checkRow_288 j_X5_checkRow_360
  rw [w_s h, cal_s, ft_314 h, ft_361 h]
  repeat' split
  all_goals rfl
theorem ft_241 {M : Me} {x1 x2 x3 x4 s : Int32} (h : ¬ M.1 91 27 = 0) : j_X5_checkRow_241 91 x1 x2 x3 x4 s M = some ((), M) := by
  unfold j_X5_checkRow_241 j_X5_checkRow_283 j_X5_checkRow_287
  rw [ft_288 h, ft_288 h]
  repeat' split
  all_goals rfl
theorem k_215 {M : Me} {b : Nat → Nat} {q : Nat} {x1 x2 x3 x4 : Int32} (hb : Bb b) (hy : BYr M b) (h34 : M.1 91 34 = nI (q + 46)) (h35 : M.1 91 35 = nI (rN b q)) (hn : 1 ≤ rN b q) (hnx : nxt b q ≤ 2000) : j_X5_checkRow_215 91 x1 x2 x3 x4 M = j_X5_checkRow_241 91 x1 x2 x3 x4 (fo b q) M := by
  have hnx2 : nxt b q = q + 46 + rN b q + rE b q := rfl
  have e47 : (nI (b (q + 46 + rN b q - 1)) = (47 : Int32)) ↔ b (q + 46 + rN b q - 1) = 47 := nI_bc hb _ 47 (by decide)
  unfold j_X5_checkRow_215 fo
  rw [h34, h35, nI_add, su_1 (by omega), rf_91_23, chk_n _ (show q + 46 + rN b q - 1 < ln 111 by rw [ln_111]; omega) (by decide), nI_clamp (by omega), hy _ (by omega)]
  by_cases g : b (q + 46 + rN b q - 1) = 47
  · rw [if_pos (e47.mpr g), if_pos ⟨by omega, g⟩]
  · rw [if_neg (fun z => g (e47.mp z)), if_neg (fun z => g z.2)]
def G5 (b : Nat → Nat) (q : Nat) : Prop := ((fo b q).toInt = 1 → ((psz b q).toInt = 0 ∧ (tsv b q).toInt = 0 ∧ mth b q = 0 ∧ flg b q = 0 ∧ (wq b q).toInt = 0)) ∧ (mth b q = 8 ∨ (psz b q).toInt = (tsv b q).toInt) ∧ (0 ≤ (psz b q).toInt ∧ (psz b q).toInt ≤ 40) ∧ (0 ≤ (tsv b q).toInt ∧ (tsv b q).toInt ≤ 1000000) ∧ ¬ (flg b q = 8 ∧ (wq b q).toInt = 1)
theorem k_241 {M : Me} {b : Nat → Nat} {q : Nat} {x1 : Int32} (hb : Bb b) (hq : q < 2 ^ 31) (h27 : M.1 91 27 = 0) (h37 : M.1 91 37 = wq b q) (h39 : M.2 91 39 = psz b q) (h40 : M.2 91 40 = tsv b q) : (G5 b q → j_X5_checkRow_241 91 x1 (nI q) (nI (mth b q)) (nI (flg b q)) (fo b q) M = cal (f_X5_checkLocal M 91 x1 (nI q) (nI (flg b q))) (fun _ M25 => some ((), M25))) ∧ (¬ G5 b q → j_X5_checkRow_241 91 x1 (nI q) (nI (mth b q)) (nI (flg b q)) (fo b q) M = some ((), sI (sI M 91 27 5) 91 28 (nI q))) := by
  obtain ⟨N, hN⟩ : ∃ N, N = sI (sI M 91 27 5) 91 28 (nI q) := ⟨_, rfl⟩
  have n27 : ¬ N.1 91 27 = 0 := by rw [hN, sI_ne (by omega), sI_eq]; decide
  have hm := n2_lt hb (q + 10)
  have hfl := n2_lt hb (q + 8)
  have em : nm b (q + 10) 2 = mth b q := rfl
  have ef : nm b (q + 8) 2 = flg b q := rfl
  rw [em] at hm
  rw [ef] at hfl
  have hw := wq_01 b q
  have hfo := fo_01 b q
  have e0 : ∀ x4, j_X5_checkRow_361 91 x1 (nI q) x4 0 91 M = some ((), N) := by
    intro x4
    unfold j_X5_checkRow_361
    rw [w_f h27 (by decide), cal_s, nI_li hq, ← hN, if_neg n27]
  have e1 : j_X5_checkRow_361 91 x1 (nI q) (nI (flg b q)) 1 91 M = cal (f_X5_checkLocal M 91 x1 (nI q) (nI (flg b q))) (fun _ M25 => some ((), M25)) := by
    unfold j_X5_checkRow_361
    rw [w_t h27, cal_s, if_pos h27]
  have e288 : j_X5_checkRow_288 91 x1 (nI q) (nI (mth b q)) (nI (flg b q)) 0 91 M = some ((), N) := by
    unfold j_X5_checkRow_288 j_X5_checkRow_360
    rw [w_f h27 (by decide), cal_s, nI_li hq, ← hN, ft_314 n27, ft_361 n27]
    repeat' split
    all_goals rfl
  have c0 : (wq b q = 0) = ((wq b q).toInt = 0) := by rw [eqc, t3_0]
  have c8 : (nI (flg b q) = (8 : Int32)) = (flg b q = 8) := propext (nI_eq (b := 8) (by omega) (by decide))
  have cf0 : (nI (flg b q) = (0 : Int32)) = (flg b q = 0) := propext (nI_eq (b := 0) (by omega) (by decide))
  have m8 : (nI (mth b q) = (8 : Int32)) = (mth b q = 8) := propext (nI_eq (b := 8) (by omega) (by decide))
  have m0 : (nI (mth b q) = (0 : Int32)) = (mth b q = 0) := propext (nI_eq (b := 0) (by omega) (by decide))
  have f0 : (fo b q = 0) = ((fo b q).toInt = 0) := by rw [eqc, t3_0]
  rw [← hN]
  unfold G5
  have e314 : ((0 ≤ (psz b q).toInt ∧ (psz b q).toInt ≤ 40) ∧ (0 ≤ (tsv b q).toInt ∧ (tsv b q).toInt ≤ 1000000) ∧ ¬ (flg b q = 8 ∧ (wq b q).toInt = 1) → j_X5_checkRow_314 91 x1 (nI q) (nI (flg b q)) 91 M = cal (f_X5_checkLocal M 91 x1 (nI q) (nI (flg b q))) (fun _ M25 => some ((), M25))) ∧ (¬ ((0 ≤ (psz b q).toInt ∧ (psz b q).toInt ≤ 40) ∧ (0 ≤ (tsv b q).toInt ∧ (tsv b q).toInt ≤ 1000000) ∧ ¬ (flg b q = 8 ∧ (wq b q).toInt = 1)) → j_X5_checkRow_314 91 x1 (nI q) (nI (flg b q)) 91 M = some ((), N)) := by
    unfold j_X5_checkRow_314 j_X5_checkRow_360 j_X5_checkRow_356
    rw [h39, f_in, cal_s, h40, f_in, cal_s, h37, e0, e1, t6_0, t6_40, t6_1000000]
    simp only [c0, c8]
    by_cases r1 : 0 ≤ (psz b q).toInt ∧ (psz b q).toInt ≤ 40
    · rw [if_pos r1, if_neg ne10]
      by_cases r2 : 0 ≤ (tsv b q).toInt ∧ (tsv b q).toInt ≤ 1000000
      · rw [if_pos r2, if_neg ne10]
        refine ⟨fun h => ?_, fun h => ?_⟩
        · repeat' split
          all_goals first | rfl | (exfalso; omega)
        · repeat' split
          all_goals first | rfl | (exfalso; omega)
      · rw [if_neg r2, if_pos (show (0 : Int32) = 0 from rfl)]
        exact ⟨fun z => absurd z.2.1 r2, fun _ => rfl⟩
    · rw [if_neg r1, if_pos (show (0 : Int32) = 0 from rfl)]
      exact ⟨fun z => absurd z.1 r1, fun _ => rfl⟩
  have e288' : ((mth b q = 8 ∨ (psz b q).toInt = (tsv b q).toInt) ∧ (0 ≤ (psz b q).toInt ∧ (psz b q).toInt ≤ 40) ∧ (0 ≤ (tsv b q).toInt ∧ (tsv b q).toInt ≤ 1000000) ∧ ¬ (flg b q = 8 ∧ (wq b q).toInt = 1) → j_X5_checkRow_288 91 x1 (nI q) (nI (mth b q)) (nI (flg b q)) 1 91 M = cal (f_X5_checkLocal M 91 x1 (nI q) (nI (flg b q))) (fun _ M25 => some ((), M25))) ∧ (¬ ((mth b q = 8 ∨ (psz b q).toInt = (tsv b q).toInt) ∧ (0 ≤ (psz b q).toInt ∧ (psz b q).toInt ≤ 40) ∧ (0 ≤ (tsv b q).toInt ∧ (tsv b q).toInt ≤ 1000000) ∧ ¬ (flg b q = 8 ∧ (wq b q).toInt = 1)) → j_X5_checkRow_288 91 x1 (nI q) (nI (mth b q)) (nI (flg b q)) 1 91 M = some ((), N)) := by
    unfold j_X5_checkRow_288 j_X5_checkRow_360
    rw [w_t h27, cal_s, h39, h40, e0]
    simp only [m8, lge]
    by_cases r1 : mth b q = 8
    · rw [if_pos r1]
      exact ⟨fun h => e314.1 h.2, fun h => e314.2 (fun z => h ⟨Or.inl r1, z⟩)⟩
    · rw [if_neg r1]
      by_cases r2 : (psz b q).toInt = (tsv b q).toInt
      · rw [if_pos r2]
        exact ⟨fun h => e314.1 h.2, fun h => e314.2 (fun z => h ⟨Or.inr r2, z⟩)⟩
      · rw [if_neg r2]
        refine ⟨fun h => ?_, fun _ => rfl⟩
        rcases h.1 with z | z
        · exact absurd z r1
        · exact absurd z r2
  unfold j_X5_checkRow_241 j_X5_checkRow_283 j_X5_checkRow_287
  rw [e288, h39, h40, h37]
  simp only [lge, f0, cf0, m0, c0, t6_0]
  by_cases r : (fo b q).toInt = 1 → ((psz b q).toInt = 0 ∧ (tsv b q).toInt = 0 ∧ mth b q = 0 ∧ flg b q = 0 ∧ (wq b q).toInt = 0)
  · have e : (if (fo b q).toInt = 0 then j_X5_checkRow_288 91 x1 (nI q) (nI (mth b q)) (nI (flg b q)) 1 91 M else if (psz b q).toInt = 0 then if (tsv b q).toInt = 0 then if mth b q = 0 then if flg b q = 0 then if (wq b q).toInt = 0 then j_X5_checkRow_288 91 x1 (nI q) (nI (mth b q)) (nI (flg b q)) 1 91 M else some ((), N) else some ((), N) else some ((), N) else some ((), N) else some ((), N)) = j_X5_checkRow_288 91 x1 (nI q) (nI (mth b q)) (nI (flg b q)) 1 91 M := by
      rcases hfo with z | z
      · rw [if_pos z]
      · obtain ⟨r1, r2, r3, r4, r5⟩ := r z
        rw [if_neg (by omega), if_pos r1, if_pos r2, if_pos r3, if_pos r4, if_pos r5]
    rw [e]
    exact ⟨fun h => e288'.1 h.2, fun h => e288'.2 (fun z => h ⟨r, z⟩)⟩
  · refine ⟨fun h => absurd h.1 r, fun _ => ?_⟩
    have hf1 : (fo b q).toInt = 1 := Classical.byContradiction (fun z => r (fun y => absurd y z))
    have r' : ¬ ((psz b q).toInt = 0 ∧ (tsv b q).toInt = 0 ∧ mth b q = 0 ∧ flg b q = 0 ∧ (wq b q).toInt = 0) := fun z => r (fun _ => z)
    rw [if_neg (by omega)]
    repeat' split
    all_goals first | rfl | (exfalso; omega)
def H5 (b : Nat → Nat) (q : Nat) : Prop := (nm b (q + 20) 4 = 4294967295 ∧ nm b (q + 24) 4 = 4294967295) ↔ (wq b q).toInt = 1
theorem k_162 {M : Me} {b : Nat → Nat} {q : Nat} {x1 x3 x4 s : Int32} (hb : Bb b) (hy : BYr M b) (hL : LY M b q) (h37 : M.1 91 37 = wq b q) (hn : 1 ≤ rN b q) (hnx : nxt b q ≤ 2000) {N : Me} {r : Int32} (hw : f_X5_want M 91 s 5 (nI q).toInt64 = some (r, N)) (hN1 : ∀ y, 34 ≤ y → N.1 91 y = M.1 91 y) (hN2 : N.2 = M.2) (yN : BYr N b) : ∃ P : Me, j_X5_checkRow_162 91 x1 (nI q) x3 x4 s 91 M = j_X5_checkRow_241 91 x1 (nI q) x3 x4 (fo b q) P ∧ P.1 = N.1 ∧ P.2 91 39 = psz b q ∧ P.2 91 40 = tsv b q ∧ P.2 91 41 = lN (lcl b q) := by
  obtain ⟨z1, z2, z3, z4, z5, z6⟩ := hL
  have hnx2 : nxt b q = q + 46 + rN b q + rE b q := rfl
  have hrS : rS b q = q + 46 + rN b q := rfl
  have n34 : N.1 91 34 = nI (q + 46) := (hN1 34 (by omega)).trans z1
  have n35 : N.1 91 35 = nI (rN b q) := (hN1 35 (by omega)).trans z2
  have n37 : N.1 91 37 = wq b q := (hN1 37 (by omega)).trans h37
  unfold j_X5_checkRow_162
  rw [hw, cal_s, n37, n34, n35]
  by_cases hd : 20 ≤ rE b q ∧ nm b (rS b q) 2 = 1 ∧ nm b (rS b q + 2) 2 = 16
  · have e1 : wq b q = 1 := if_pos hd
    have e3 : psz b q = lN (nm b (rS b q + 12) 8) := if_pos hd
    have e4 : tsv b q = lN (nm b (rS b q + 4) 8) := if_pos hd
    rw [e1, if_neg ne10, e3, e4, nI_add, ← hrS, show (4 : Int32) = nI 4 from rfl, nI_add, f_eight hb yN (by omega), cal_s, bnd_s]
    obtain ⟨A, hA⟩ : ∃ A, A = sL N 91 40 (lN (nm b (rS b q + 4) 8)) := ⟨_, rfl⟩
    have yA : BYr A b := by rw [hA]; exact yN
    have a34 : A.1 91 34 = nI (q + 46) := by rw [hA]; exact n34
    have a35 : A.1 91 35 = nI (rN b q) := by rw [hA]; exact n35
    rw [← hA, a34, a35, nI_add, ← hrS, show (12 : Int32) = nI 12 from rfl, nI_add, f_eight hb yA (by omega), cal_s, bnd_s]
    refine ⟨_, k_215 hb (M := sL A 91 39 (lN (nm b (rS b q + 12) 8))) yA a34 a35 hn hnx, ?_, ?_, ?_, ?_⟩
    · rw [hA]; rfl
    · rw [sL_eq]
    · rw [sL_ne (by omega), hA, sL_eq]
    · rw [sL_ne (by omega), hA, sL_ne (by omega), hN2]; exact z6
  · have e1 : wq b q = 0 := if_neg hd
    have e3 : psz b q = lN (nm b (q + 20) 4) := if_neg hd
    have e4 : tsv b q = lN (nm b (q + 24) 4) := if_neg hd
    rw [e1, if_pos (show (0 : Int32) = 0 from rfl), e3, e4]
    exact ⟨N, k_215 hb yN n34 n35 hn hnx, rfl, by rw [hN2]; exact z4, by rw [hN2]; exact z5, by rw [hN2]; exact z6⟩
theorem k_108 {M : Me} {b : Nat → Nat} {q : Nat} {x1 x3 x4 : Int32} (hb : Bb b) (hL : LY M b q) (h27 : M.1 91 27 = 0) (h37 : M.1 91 37 = wq b q) : (H5 b q → j_X5_checkRow_108 91 x1 (nI q) x3 x4 1 91 M = j_X5_checkRow_162 91 x1 (nI q) x3 x4 1 91 M) ∧ (¬ H5 b q → j_X5_checkRow_108 91 x1 (nI q) x3 x4 1 91 M = j_X5_checkRow_162 91 x1 (nI q) x3 x4 0 91 M) := by
  obtain ⟨z1, z2, z3, z4, z5, z6⟩ := hL
  have h20 := n4_lt hb (q + 20)
  have h24 := n4_lt hb (q + 24)
  have hw := wq_01 b q
  unfold j_X5_checkRow_108 j_X5_checkRow_144 j_X5_checkRow_145 H5
  rw [w_t h27, cal_s, if_neg ne10, z4, z5, h37]
  simp only [lge, t6_4294967295]
  rw [lN_tI (by omega), lN_tI (by omega)]
  have c1 : ((1 : Int32) = wq b q) = ((wq b q).toInt = 1) := by rw [eqc, t3_1]; exact propext ⟨fun z => z.symm, fun z => z.symm⟩
  have c0 : ((0 : Int32) = wq b q) = ((wq b q).toInt = 0) := by rw [eqc, t3_0]; exact propext ⟨fun z => z.symm, fun z => z.symm⟩
  simp only [c1, c0]
  by_cases hal : nm b (q + 20) 4 = 4294967295 ∧ nm b (q + 24) 4 = 4294967295
  · rw [if_pos (by omega), if_pos (by omega)]
    rcases hw with hw | hw
    · rw [if_neg (by omega)]
      exact ⟨fun z => by have := z.mp hal; omega, fun _ => rfl⟩
    · rw [if_pos hw]
      exact ⟨fun _ => rfl, fun z => absurd ⟨fun _ => hw, fun _ => hal⟩ z⟩
  · have e : ∀ A B : Option (Unit × Me), (if ((nm b (q + 20) 4 : Nat) : Int) = 4294967295 then if ((nm b (q + 24) 4 : Nat) : Int) = 4294967295 then A else B else B) = B := by
      intro A B
      by_cases q1 : ((nm b (q + 20) 4 : Nat) : Int) = 4294967295
      · rw [if_pos q1, if_neg (by omega)]
      · rw [if_neg q1]
    rw [e]
    rcases hw with hw | hw
    · rw [if_pos hw]
      exact ⟨fun _ => rfl, fun z => absurd ⟨fun y => absurd y hal, fun y => by omega⟩ z⟩
    · rw [if_neg (by omega)]
      exact ⟨fun z => absurd (z.mpr hw) hal, fun _ => rfl⟩
theorem f_c4 {M : Me} {b : Nat → Nat} {i q : Nat} (hb : Bb b) (hy : BYr M b) (hi : i < 12) (h112 : M.1 112 i = nI q) (hnx : nxt b q ≤ 2000) : ∃ N, KY M N ∧ LY N b q ∧ (C4 b q → f_X5_checkRow M 91 (nI i) = j_X5_checkRow_108 91 (nI i) (nI q) (nI (mth b q)) (nI (flg b q)) 1 91 N ∧ N.1 91 37 = wq b q) ∧ (¬ C4 b q → f_X5_checkRow M 91 (nI i) = j_X5_checkRow_108 91 (nI i) (nI q) (nI (mth b q)) (nI (flg b q)) 0 91 N) := by
  have hnx2 : nxt b q = q + 46 + rN b q + rE b q := rfl
  have hrS : rS b q = q + 46 + rN b q := rfl
  obtain ⟨A, eA, lA, kA⟩ := f_lay (q := q) hb hy (by omega)
  obtain ⟨B, kB, sB, sB2, tB, fB⟩ := f_hP (M := A) (q := q) hb (kA.by hy) hnx
  have em : nm b (q + 10) 2 = mth b q := rfl
  have ef : nm b (q + 8) 2 = flg b q := rfl
  have hm := n2_lt hb (q + 10)
  have hfl := n2_lt hb (q + 8)
  have hrn := n2_lt hb (q + 28)
  have en : nm b (q + 28) 2 = rN b q := rfl
  rw [em] at hm
  rw [ef] at hfl
  rw [en] at hrn
  have lB : LY B b q := ⟨(sB 34 (by omega)).trans lA.1, (sB 35 (by omega)).trans lA.2.1, (sB 36 (by omega)).trans lA.2.2.1, by rw [sB2]; exact lA.2.2.2.1, by rw [sB2]; exact lA.2.2.2.2.1, by rw [sB2]; exact lA.2.2.2.2.2⟩
  have c8 : (nI (flg b q) = (8 : Int32)) = (flg b q = 8) := propext (nI_eq (b := 8) (by omega) (by decide))
  have c0 : (nI (flg b q) = (0 : Int32)) = (flg b q = 0) := propext (nI_eq (b := 0) (by omega) (by decide))
  have m8 : (nI (mth b q) = (8 : Int32)) = (mth b q = 8) := propext (nI_eq (b := 8) (by omega) (by decide))
  have m0 : (nI (mth b q) = (0 : Int32)) = (mth b q = 0) := propext (nI_eq (b := 0) (by omega) (by decide))
  refine ⟨B, kA.trans kB, lB, ?_⟩
  have pre : ∀ r, f_X5_hasParts A 91 (nI (rS b q)) (nI (nxt b q)) = some (r, B) → f_X5_checkRow M 91 (nI i) = if nI (mth b q) = (0 : Int32) then j_X5_checkRow_71 91 (nI i) (nI q) (nI (mth b q)) (nI (flg b q)) r 91 B else if nI (mth b q) = (8 : Int32) then j_X5_checkRow_71 91 (nI i) (nI q) (nI (mth b q)) (nI (flg b q)) r 91 B else j_X5_checkRow_107 91 (nI i) (nI q) (nI (mth b q)) (nI (flg b q)) 91 B := by
    intro r hr
    unfold f_X5_checkRow
    rw [rf_91_33, chk_n _ (show i < ln 112 by rw [ln_112]; omega) (by decide), nI_clamp (by omega), h112, bndV_s, eA, cal_s, show (10 : Int32) = nI 10 from rfl, nI_add, f_two hb (kA.by hy) (by omega), cal_s, show (8 : Int32) = nI 8 from rfl, nI_add, f_two hb (kA.by hy) (by omega), cal_s, lA.1, lA.2.1, lA.2.2.1, nI_add, nI_add, em, ef]
    have hr' : f_X5_hasParts A 91 (nI (q + 46 + rN b q)) (nI (q + 46 + rN b q + rE b q)) = some (r, B) := hr
    rw [hr', cal_s]
  have e71 : ∀ r, j_X5_checkRow_71 91 (nI i) (nI q) (nI (mth b q)) (nI (flg b q)) r 91 B = if 1 ≤ rN b q ∧ rN b q ≤ 16 then (if flg b q = 0 then (if r = 0 then j_X5_checkRow_108 91 (nI i) (nI q) (nI (mth b q)) (nI (flg b q)) 0 91 B else j_X5_checkRow_108 91 (nI i) (nI q) (nI (mth b q)) (nI (flg b q)) 1 91 B) else if flg b q = 8 then (if r = 0 then j_X5_checkRow_108 91 (nI i) (nI q) (nI (mth b q)) (nI (flg b q)) 0 91 B else j_X5_checkRow_108 91 (nI i) (nI q) (nI (mth b q)) (nI (flg b q)) 1 91 B) else j_X5_checkRow_108 91 (nI i) (nI q) (nI (mth b q)) (nI (flg b q)) 0 91 B) else j_X5_checkRow_108 91 (nI i) (nI q) (nI (mth b q)) (nI (flg b q)) 0 91 B := by
    intro r
    unfold j_X5_checkRow_71 j_X5_checkRow_98 j_X5_checkRow_107
    rw [f_in, cal_s, lB.2.1, i64_toInt, nI_toInt (by omega), t6_1, t6_16]
    simp only [c8, c0]
    by_cases g : 1 ≤ rN b q ∧ rN b q ≤ 16
    · rw [if_pos g, if_pos (show (1 : Int) ≤ (rN b q : Int) ∧ (rN b q : Int) ≤ 16 by omega), if_neg ne10]
    · rw [if_neg g, if_neg (show ¬ ((1 : Int) ≤ (rN b q : Int) ∧ (rN b q : Int) ≤ 16) by omega), if_pos (show (0 : Int32) = 0 from rfl)]
  by_cases hp : ∃ m, prt b (pq b q) (nxt b q) m
  · obtain ⟨t1, t2⟩ := tB hp
    rw [pre 1 t1, e71]
    unfold j_X5_checkRow_107
    simp only [m0, m8]
    rw [if_neg ne10]
    refine ⟨fun h => ⟨?_, t2⟩, fun h => ?_⟩
    · have h1 := h.1
      repeat' split
      all_goals first | rfl | (exfalso; omega)
    · have h1 : ¬ ((mth b q = 0 ∨ mth b q = 8) ∧ (flg b q = 0 ∨ flg b q = 8) ∧ 1 ≤ rN b q ∧ rN b q ≤ 16) := fun z => h ⟨z, hp⟩
      repeat' split
      all_goals first | rfl | (exfalso; omega)
  · refine ⟨fun h => absurd h.2 hp, fun _ => ?_⟩
    rw [pre 0 (fB hp), e71]
    unfold j_X5_checkRow_107
    rw [if_pos (show (0 : Int32) = 0 from rfl)]
    repeat' split
    all_goals rfl
theorem f_cR {M : Me} {b : Nat → Nat} {cf i : Nat} (hb : Bb b) (hy : BYr M b) (hi : i < 12) (h112 : M.1 112 i = nI (rs b cf i)) (h27 : M.1 91 27 = 0) (h31 : M.1 91 31 = nI cf) (hc : cf ≤ 2000) (hnx : nxt b (rs b cf i) ≤ 2000) (hg : ∀ j, j < i → good b cf j) (h113 : ∀ j, j < i → M.1 113 j = nI (lcl b (rs b cf j))) (h114 : ∀ j, j < i → M.1 114 j = nI (lend b (rs b cf j))) : (good b cf i → ∃ M', f_X5_checkRow M 91 (nI i) = some ((), M') ∧ FR i M M' ∧ M'.1 91 27 = 0 ∧ M'.1 113 i = nI (lcl b (rs b cf i)) ∧ M'.1 114 i = nI (lend b (rs b cf i))) ∧ (∀ κ pl, bad b cf i κ pl → ∃ M', f_X5_checkRow M 91 (nI i) = some ((), M') ∧ FR i M M' ∧ M'.1 91 27 = nI κ ∧ M'.1 91 28 = nI pl) := by
  obtain ⟨q, eq⟩ : ∃ q, q = rs b cf i := ⟨_, rfl⟩
  obtain ⟨N, kN, lN', t4, f4⟩ := f_c4 hb hy hi h112 hnx
  have hnx2 : nxt b (rs b cf i) = rs b cf i + 46 + rN b (rs b cf i) + rE b (rs b cf i) := rfl
  have hq31 : rs b cf i < 2 ^ 31 := by omega
  have n27 : N.1 91 27 = 0 := (kN 91 27 (by omega)).trans h27
  have n31 : N.1 91 31 = nI cf := (kN 91 31 (by omega)).trans h31
  have yN := kN.by hy
  have fl : ∀ (P : Me) (v w : Int32), (sI (sI P 91 27 v) 91 28 w).1 91 27 = v ∧ (sI (sI P 91 27 v) 91 28 w).1 91 28 = w := fun P v w => ⟨by rw [sI_ne (by omega), sI_eq], sI_eq⟩
  have five : C4 b (rs b cf i) → ¬ C5 b (rs b cf i) → ∃ M', f_X5_checkRow M 91 (nI i) = some ((), M') ∧ FR i M M' ∧ M'.1 91 27 = 5 ∧ M'.1 91 28 = nI (rs b cf i) := by
    intro h4 h5
    obtain ⟨e1, n37⟩ := t4 h4
    by_cases hH : H5 b (rs b cf i)
    · obtain ⟨P, p1, p2, p3, p4, p5⟩ := k_162 (x1 := nI i) (x3 := nI (mth b (rs b cf i))) (x4 := nI (flg b (rs b cf i))) hb yN lN' n37 h4.1.2.2.1 hnx (w_t n27) (fun _ _ => rfl) rfl yN
      have hG : ¬ G5 b (rs b cf i) := fun z => h5 ⟨hH, z⟩
      refine ⟨_, e1.trans (((k_108 hb lN' n27 n37).1 hH).trans (p1.trans ((k_241 hb hq31 (by rw [p2]; exact n27) (by rw [p2]; exact n37) p3 p4).2 hG))), FR.flt ?_, (fl _ _ _).1, (fl _ _ _).2⟩
      intro x y h1 h2
      rw [p2]
      exact kN x y (by omega)
    · obtain ⟨W, hW⟩ : ∃ W, W = sI (sI N 91 27 5) 91 28 (nI (rs b cf i)) := ⟨_, rfl⟩
      have hwn : f_X5_want N 91 0 5 (nI (rs b cf i)).toInt64 = some (0, W) := by
        rw [w_f n27 (by decide), nI_li hq31, hW]
      have w27 : W.1 91 27 = 5 := by rw [hW]; exact (fl _ _ _).1
      obtain ⟨P, p1, p2, p3, p4, p5⟩ := k_162 (x1 := nI i) (x3 := nI (mth b (rs b cf i))) (x4 := nI (flg b (rs b cf i))) hb yN lN' n37 h4.1.2.2.1 hnx hwn (fun y h => by rw [hW, sI_ne (by omega), sI_ne (by omega)]) (by rw [hW]; rfl) (by rw [hW]; exact (yN.up (by omega)).up (by omega))
      refine ⟨P, e1.trans (((k_108 hb lN' n27 n37).2 hH).trans (p1.trans (ft_241 (by rw [p2, w27]; decide)))), ?_, by rw [p2]; exact w27, by rw [p2, hW]; exact (fl _ _ _).2⟩
      intro x y h1 h2
      rw [p2, hW]
      exact (FR.flt (i := i) kN.fr) x y h1 h2
  have six : C4 b (rs b cf i) → C5 b (rs b cf i) → ∃ P, FR i M P ∧ LZ P b (rs b cf i) cf ∧ P.1 91 27 = 0 ∧ f_X5_checkRow M 91 (nI i) = cal (f_X5_checkLocal P 91 (nI i) (nI (rs b cf i)) (nI (flg b (rs b cf i)))) (fun _ M25 => some ((), M25)) := by
    intro h4 h5
    obtain ⟨e1, n37⟩ := t4 h4
    obtain ⟨P, p1, p2, p3, p4, p5⟩ := k_162 (x1 := nI i) (x3 := nI (mth b (rs b cf i))) (x4 := nI (flg b (rs b cf i))) hb yN lN' n37 h4.1.2.2.1 hnx (w_t n27) (fun _ _ => rfl) rfl yN
    refine ⟨P, ?_, ⟨by rw [p2]; exact lN'.1, by rw [p2]; exact lN'.2.1, by rw [p2]; exact lN'.2.2.1, by rw [p2]; exact n31, p3, p5⟩, by rw [p2]; exact n27, e1.trans (((k_108 hb lN' n27 n37).1 h5.1).trans (p1.trans ((k_241 hb hq31 (by rw [p2]; exact n27) (by rw [p2]; exact n37) p3 p4).1 h5.2)))⟩
    intro x y h1 h2
    rw [p2]
    exact kN x y (by omega)
  have seven : ∀ (h4 : C4 b (rs b cf i)) (h5 : C5 b (rs b cf i)), (good b cf i → ∃ M', f_X5_checkRow M 91 (nI i) = some ((), M') ∧ FR i M M' ∧ M'.1 91 27 = 0 ∧ M'.1 113 i = nI (lcl b (rs b cf i)) ∧ M'.1 114 i = nI (lend b (rs b cf i))) ∧ (∀ κ pl, badL b cf i κ pl → ∃ M', f_X5_checkRow M 91 (nI i) = some ((), M') ∧ FR i M M' ∧ M'.1 91 27 = nI κ ∧ M'.1 91 28 = nI pl) := by
    intro h4 h5
    obtain ⟨P, fP', zP, p27, e⟩ := six h4 h5
    obtain ⟨g1, g2⟩ := f_cL hb (fP'.by hy) zP p27 hi hc hnx h4 h5 hg (fun j hj => (fP' 113 j (by omega) (by omega)).trans (h113 j hj)) (fun j hj => (fP' 114 j (by omega) (by omega)).trans (h114 j hj))
    refine ⟨fun hgd => ?_, fun κ pl hbad => ?_⟩
    · obtain ⟨M', m1, m2, m3, m4, m5⟩ := g1 hgd
      exact ⟨M', by rw [e, m1, cal_s], fP'.trans m2, m3, m4, m5⟩
    · obtain ⟨M', m1, m2, m3, m4⟩ := g2 κ pl hbad
      exact ⟨M', by rw [e, m1, cal_s], fP'.trans m2, m3, m4⟩
  refine ⟨fun hgd => (seven hgd.1 hgd.2.1).1 hgd, fun κ pl hbad => ?_⟩
  rcases hbad with ⟨h4, e1, e2⟩ | ⟨h4, hbad⟩
  · subst e1
    subst e2
    refine ⟨_, (f4 h4).trans ?_, FR.flt kN.fr, (fl _ _ _).1, (fl _ _ _).2⟩
    unfold j_X5_checkRow_108
    rw [w_f n27 (by decide), cal_s, if_pos (show (0 : Int32) = 0 from rfl), nI_li hq31]
    rfl
  rcases hbad with ⟨h5, e1, e2⟩ | ⟨h5, hbad⟩
  · subst e1
    subst e2
    exact five h4 h5
  · exact (seven h4 h5).2 κ pl hbad
