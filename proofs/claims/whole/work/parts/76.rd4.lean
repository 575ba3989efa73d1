/-! A ROW's checks, as the document tells them -/
def rS (b : Nat → Nat) (q : Nat) : Nat := q + 46 + rN b q
def mth (b : Nat → Nat) (q : Nat) : Nat := nm b (q + 10) 2
def flg (b : Nat → Nat) (q : Nat) : Nat := nm b (q + 8) 2
def lcl (b : Nat → Nat) (q : Nat) : Nat := nm b (q + 42) 4
def wq (b : Nat → Nat) (q : Nat) : Int32 := wv b (rS b q) (rE b q)
def pq (b : Nat → Nat) (q : Nat) : Nat := p0 b (rS b q) (rE b q)
def psz (b : Nat → Nat) (q : Nat) : Int64 := if 20 ≤ rE b q ∧ nm b (rS b q) 2 = 1 ∧ nm b (rS b q + 2) 2 = 16 then lN (nm b (rS b q + 12) 8) else lN (nm b (q + 20) 4)
def tsv (b : Nat → Nat) (q : Nat) : Int64 := if 20 ≤ rE b q ∧ nm b (rS b q) 2 = 1 ∧ nm b (rS b q + 2) 2 = 16 then lN (nm b (rS b q + 4) 8) else lN (nm b (q + 24) 4)
def C4 (b : Nat → Nat) (q : Nat) : Prop := ((mth b q = 0 ∨ mth b q = 8) ∧ (flg b q = 0 ∨ flg b q = 8) ∧ 1 ≤ rN b q ∧ rN b q ≤ 16) ∧ ∃ m, prt b (pq b q) (nxt b q) m
def C5 (b : Nat → Nat) (q : Nat) : Prop := ((nm b (q + 20) 4 = 4294967295 ∧ nm b (q + 24) 4 = 4294967295) ↔ (wq b q).toInt = 1) ∧ ((fo b q).toInt = 1 → ((psz b q).toInt = 0 ∧ (tsv b q).toInt = 0 ∧ mth b q = 0 ∧ flg b q = 0 ∧ (wq b q).toInt = 0)) ∧ (mth b q = 8 ∨ (psz b q).toInt = (tsv b q).toInt) ∧ (0 ≤ (psz b q).toInt ∧ (psz b q).toInt ≤ 40) ∧ (0 ≤ (tsv b q).toInt ∧ (tsv b q).toInt ≤ 1000000) ∧ ¬ (flg b q = 8 ∧ (wq b q).toInt = 1)
theorem wq_01 (b : Nat → Nat) (q : Nat) : (wq b q).toInt = 0 ∨ (wq b q).toInt = 1 := by
  unfold wq wv
  by_cases h : 20 ≤ rE b q ∧ nm b (rS b q) 2 = 1 ∧ nm b (rS b q + 2) 2 = 16
  · rw [if_pos h]; exact Or.inr rfl
  · rw [if_neg h]; exact Or.inl rfl
theorem fo_01 (b : Nat → Nat) (q : Nat) : (fo b q).toInt = 0 ∨ (fo b q).toInt = 1 := by
  unfold fo
  by_cases h : 0 < rN b q ∧ b (q + 46 + rN b q - 1) = 47
  · rw [if_pos h]; exact Or.inr rfl
  · rw [if_neg h]; exact Or.inl rfl
/-- what the walk over the extra bytes leaves in a Row -/
def RG (M : Me) (b : Nat → Nat) (a q : Nat) : Prop := M.1 a 8 = nI (pq b q) ∧ M.1 a 10 = wq b q ∧ M.2 a 15 = psz b q ∧ M.2 a 16 = tsv b q ∧ ∃ m, prt b (pq b q) (nxt b q) m ∧ M.1 a 9 = nI m
theorem f_tX {M : Me} {b : Nat → Nat} {a q : Nat} (hb : Bb b) (hx : BX M b) (ha : 6 ≤ a) (hr : RF M b a q) (hq : nxt b q ≤ 2000) : ∃ M', KX M M' a ∧ M'.1 a 8 = nI (pq b q) ∧ M'.1 a 10 = wq b q ∧ M'.2 a 15 = psz b q ∧ M'.2 a 16 = tsv b q ∧ (∀ m, prt b (pq b q) (nxt b q) m → M'.1 a 9 = nI m ∧ f_X2_takeExtra M a 2 = some (1, M')) ∧ ((¬ ∃ m, prt b (pq b q) (nxt b q) m) → f_X2_takeExtra M a 2 = some (0, M')) := by
  obtain ⟨f0, f1, f2, f3, f4, f5, f6, f7, f11, l12, l13, l14, l17⟩ := hr
  have hnx : nxt b q = q + 46 + rN b q + rE b q := rfl
  have hrS : rS b q = q + 46 + rN b q := rfl
  have pre : ∃ M8, KX M M8 a ∧ M8.1 a 10 = wq b q ∧ M8.2 a 15 = psz b q ∧ M8.2 a 16 = tsv b q ∧ f_X2_takeExtra M a 2 = j_X2_takeExtra_105 a 2 (nI (nxt b q)) (nI (pq b q)) M8 := by
    unfold f_X2_takeExtra f_X2_endPlace f_X2_namePlace
    rw [f0, f6, f7, show (46 : Int32) = nI 46 from rfl, nI_add, nI_add, nI_add, cal_s, cal_s, f0, f6, nI_add, nI_add, bndV_s, f7]
    show ∃ M8, _ ∧ _ ∧ _ ∧ _ ∧ (if nI (rE b q) < (20 : Int32) then j_X2_takeExtra_50 a 2 (nI (nxt b q)) (nI (rS b q)) a M else cal (f_X3_number2 M 2 (nI (rS b q))) (fun r26 M27 => if r26 = (1 : Int32) then cal (f_X3_number2 M27 2 (nI (rS b q) + (2 : Int32))) (fun r28 M29 => if r28 = (16 : Int32) then j_X2_takeExtra_51 a 2 (nI (nxt b q)) (nI (rS b q)) (1 : Int32) a M29 else j_X2_takeExtra_50 a 2 (nI (nxt b q)) (nI (rS b q)) a M29) else j_X2_takeExtra_50 a 2 (nI (nxt b q)) (nI (rS b q)) a M27)) = _
    have hn2 := n2_lt hb (rS b q)
    have hn3 := n2_lt hb (rS b q + 2)
    have eL : (if nI (rE b q) < (20 : Int32) then j_X2_takeExtra_50 a 2 (nI (nxt b q)) (nI (rS b q)) a M else cal (f_X3_number2 M 2 (nI (rS b q))) (fun r26 M27 => if r26 = (1 : Int32) then cal (f_X3_number2 M27 2 (nI (rS b q) + (2 : Int32))) (fun r28 M29 => if r28 = (16 : Int32) then j_X2_takeExtra_51 a 2 (nI (nxt b q)) (nI (rS b q)) (1 : Int32) a M29 else j_X2_takeExtra_50 a 2 (nI (nxt b q)) (nI (rS b q)) a M29) else j_X2_takeExtra_50 a 2 (nI (nxt b q)) (nI (rS b q)) a M27)) = if 20 ≤ rE b q ∧ nm b (rS b q) 2 = 1 ∧ nm b (rS b q + 2) 2 = 16 then j_X2_takeExtra_51 a 2 (nI (nxt b q)) (nI (rS b q)) 1 a M else j_X2_takeExtra_51 a 2 (nI (nxt b q)) (nI (rS b q)) 0 a M := by
      unfold j_X2_takeExtra_50
      rcases Nat.lt_or_ge (rE b q) 20 with h | h
      · rw [if_pos (show nI (rE b q) < (20 : Int32) from nI_lt (b := 20) h (by decide)), if_neg (by omega)]
      · rw [if_neg (show ¬ nI (rE b q) < (20 : Int32) from nI_nlt (b := 20) h (by omega)), f_n2 hb hx (by omega), cal_s, show (2 : Int32) = nI 2 from rfl, nI_add, f_n2 hb hx (by omega), cal_s]
        by_cases h1 : nm b (rS b q) 2 = 1
        · rw [if_pos (show nI (nm b (rS b q) 2) = (1 : Int32) by rw [h1]; rfl)]
          by_cases h2 : nm b (rS b q + 2) 2 = 16
          · rw [if_pos (show nI (nm b (rS b q + 2) 2) = (16 : Int32) by rw [h2]; rfl), if_pos ⟨h, h1, h2⟩]
          · rw [if_neg (show ¬ nI (nm b (rS b q + 2) 2) = (16 : Int32) from fun z => h2 ((nI_eq (b := 16) (by omega) (by decide)).mp z)), if_neg (fun z => h2 z.2.2)]
        · rw [if_neg (show ¬ nI (nm b (rS b q) 2) = (1 : Int32) from fun z => h1 ((nI_eq (b := 1) (by omega) (by decide)).mp z)), if_neg (fun z => h1 z.2.1)]
    rw [eL]
    by_cases hw : 20 ≤ rE b q ∧ nm b (rS b q) 2 = 1 ∧ nm b (rS b q + 2) 2 = 16
    · have e1 : wq b q = 1 := if_pos hw
      have e2 : pq b q = rS b q + 20 := if_pos hw
      have e3 : psz b q = lN (nm b (rS b q + 12) 8) := if_pos hw
      have e4 : tsv b q = lN (nm b (rS b q + 4) 8) := if_pos hw
      rw [if_pos hw, e1, e2, e3, e4]
      unfold j_X2_takeExtra_51
      rw [chZ_1, bnd_s, bnd_s, bnd_s]
      obtain ⟨A, hA⟩ : ∃ A, A = sL (sL (sI M a 10 1) a 15 ((sI M a 10 1).2 a 13)) a 16 ((sL (sI M a 10 1) a 15 ((sI M a 10 1).2 a 13)).2 a 14) := ⟨_, rfl⟩
      rw [← hA]
      have kA : KX M A a := by rw [hA]; exact kx_sL (kx_sL (kx_sI KX.refl (by omega)) (by omega)) (by omega)
      have a10 : A.1 a 10 = 1 := by rw [hA]; exact sI_eq
      have xA := kA.bx ha hx
      rw [a10, if_neg (by decide), show (4 : Int32) = nI 4 from rfl, nI_add, f_n8 hb xA (by omega), cal_s, bnd_s]
      have xB : BX (sL A a 16 (lN (nm b (rS b q + 4) 8))) b := xA
      rw [show (8 : Int32) = nI 8 from rfl, nI_add, f_n8 hb xB (by omega), cal_s, bnd_s, show (20 : Int32) = nI 20 from rfl, nI_add, bndV_s]
      refine ⟨_, kx_sL (kx_sL kA (by omega)) (by omega), a10, ?_, ?_, rfl⟩
      · rw [sL_eq]
      · rw [sL_ne (by omega), sL_eq]
    · have e1 : wq b q = 0 := if_neg hw
      have e2 : pq b q = rS b q := if_neg hw
      have e3 : psz b q = lN (nm b (q + 20) 4) := if_neg hw
      have e4 : tsv b q = lN (nm b (q + 24) 4) := if_neg hw
      rw [if_neg hw, e1, e2, e3, e4]
      unfold j_X2_takeExtra_51
      rw [chZ_0, bnd_s, bnd_s, bnd_s]
      obtain ⟨A, hA⟩ : ∃ A, A = sL (sL (sI M a 10 0) a 15 ((sI M a 10 0).2 a 13)) a 16 ((sL (sI M a 10 0) a 15 ((sI M a 10 0).2 a 13)).2 a 14) := ⟨_, rfl⟩
      rw [← hA]
      have a10 : A.1 a 10 = 0 := by rw [hA]; exact sI_eq
      rw [a10, if_pos rfl]
      refine ⟨A, by rw [hA]; exact kx_sL (kx_sL (kx_sI KX.refl (by omega)) (by omega)) (by omega), a10, ?_, ?_, rfl⟩
      · rw [hA, sL_ne (by omega), sL_eq]
        exact l13
      · rw [hA, sL_eq, sL_ne (by omega)]
        exact l14
  obtain ⟨M8, k8, h10, h15, h16, hf⟩ := pre
  have hp0 : pq b q ≤ 2100 := by
    unfold pq p0
    by_cases hw : 20 ≤ rE b q ∧ nm b (rS b q) 2 = 1 ∧ nm b (rS b q + 2) 2 = 16
    · rw [if_pos hw]; omega
    · rw [if_neg hw]; omega
  obtain ⟨M', k', g8, g10, gL, gt, gf⟩ := f_105 (M := M8) (a := a) (s := pq b q) (t := nxt b q) hb (k8.bx ha hx) ha hp0 (by omega)
  exact ⟨M', k8.trans k', g8, by rw [g10]; exact h10, by rw [gL]; exact h15, by rw [gL]; exact h16, fun m hm => ⟨(gt m hm).1, by rw [hf]; exact (gt m hm).2⟩, fun hno => by rw [hf]; exact gf hno⟩
theorem f_kF {M : Me} {b : Nat → Nat} {a q : Nat} (hb : Bb b) (hx : BX M b) (ha : 6 ≤ a) (hr : RF M b a q) (hq : nxt b q ≤ 2000) : (C4 b q → ∃ M', f_X2_hasKnownForm M a 2 = some (1, M') ∧ KX M M' a ∧ RG M' b a q) ∧ (¬ C4 b q → ∃ M', f_X2_hasKnownForm M a 2 = some (0, M') ∧ KX M M' a) := by
  obtain ⟨M', k', g8, g10, g15, g16, gt, gf⟩ := f_tX hb hx ha hr hq
  obtain ⟨f0, f1, f2, f3, f4, f5, f6, f7, f11, l12, l13, l14, l17⟩ := hr
  have hm := n2_lt hb (q + 10)
  have hfl := n2_lt hb (q + 8)
  have hrn := n2_lt hb (q + 28)
  have em : nm b (q + 10) 2 = mth b q := rfl
  have ef : nm b (q + 8) 2 = flg b q := rfl
  have en : nm b (q + 28) 2 = rN b q := rfl
  rw [em] at hm
  rw [ef] at hfl
  rw [en] at hrn
  unfold f_X2_hasKnownForm j_X2_hasKnownForm_16 j_X2_hasKnownForm_34
  rw [f1, f2, f6, em, ef]
  simp only [chZ_0, chZ_1, eqc, ltc, t3_0, t3_8, t3_1, t3_16]
  rw [nI_toInt (by omega), nI_toInt (by omega), nI_toInt (by omega)]
  refine ⟨fun h => ?_, fun h => ?_⟩
  · obtain ⟨⟨h1, h2, h3, h4⟩, m, hm⟩ := h
    obtain ⟨g9, ge⟩ := gt m hm
    refine ⟨M', ?_, k', g8, g10, g15, g16, m, hm, g9⟩
    rw [ge, cal_s, t3_1]
    rcases h1 with h1 | h1 <;> rcases h2 with h2 | h2 <;> rw [h1, h2] <;> simp (disch := omega) only [if_pos, if_neg, if_true, if_false] <;> (repeat' split) <;> first | rfl | (exfalso; omega)
  · by_cases hp : ∃ m, prt b (pq b q) (nxt b q) m
    · obtain ⟨m, hm⟩ := hp
      have hno : ¬ ((mth b q = 0 ∨ mth b q = 8) ∧ (flg b q = 0 ∨ flg b q = 8) ∧ 1 ≤ rN b q ∧ rN b q ≤ 16) := fun z => h ⟨z, m, hm⟩
      refine ⟨M, ?_, KX.refl⟩
      repeat' split
      all_goals first | rfl | (exfalso; omega)
    · rw [gf hp, cal_s, t3_0]
      by_cases hall : (mth b q = 0 ∨ mth b q = 8) ∧ (flg b q = 0 ∨ flg b q = 8) ∧ 1 ≤ rN b q ∧ rN b q ≤ 16
      · refine ⟨M', ?_, k'⟩
        repeat' split
        all_goals first | rfl | (exfalso; omega)
      · refine ⟨M, ?_, KX.refl⟩
        repeat' split
        all_goals first | rfl | (exfalso; omega)
theorem f_117 {M : Me} {b : Nat → Nat} {a q : Nat} (hb : Bb b) (hr : RF M b a q) (hg : RG M b a q) : (((fo b q).toInt = 0 ∨ ((psz b q).toInt = 0 ∧ (tsv b q).toInt = 0 ∧ mth b q = 0 ∧ flg b q = 0 ∧ (wq b q).toInt = 0)) → j_X2_hasKnownSizes_117 a M = some (1, M)) ∧ (¬ ((fo b q).toInt = 0 ∨ ((psz b q).toInt = 0 ∧ (tsv b q).toInt = 0 ∧ mth b q = 0 ∧ flg b q = 0 ∧ (wq b q).toInt = 0)) → j_X2_hasKnownSizes_117 a M = some (0, M)) := by
  obtain ⟨f0, f1, f2, f3, f4, f5, f6, f7, f11, l12, l13, l14, l17⟩ := hr
  obtain ⟨g8, g10, g15, g16, _⟩ := hg
  have hm := n2_lt hb (q + 10)
  have hfl := n2_lt hb (q + 8)
  have em : nm b (q + 10) 2 = mth b q := rfl
  have ef : nm b (q + 8) 2 = flg b q := rfl
  rw [em] at hm
  rw [ef] at hfl
  unfold j_X2_hasKnownSizes_117
  rw [g15, g16, f1, f2, f11, g10, em, ef]
  simp only [lge]
  simp only [chZ_0, chZ_1, eqc, t3_0, t6_0]
  rw [nI_toInt (by omega), nI_toInt (by omega)]
  refine ⟨fun h => ?_, fun h => ?_⟩
  · repeat' split
    all_goals first | rfl | (exfalso; omega)
  · repeat' split
    all_goals first | rfl | (exfalso; omega)
theorem f_99 {M : Me} {b : Nat → Nat} {a q : Nat} (hb : Bb b) (hr : RF M b a q) (hg : RG M b a q) : ((¬ (flg b q = 8 ∧ (wq b q).toInt = 1) ∧ ((fo b q).toInt = 0 ∨ ((psz b q).toInt = 0 ∧ (tsv b q).toInt = 0 ∧ mth b q = 0 ∧ flg b q = 0 ∧ (wq b q).toInt = 0))) → j_X2_hasKnownSizes_99 a M = some (1, M)) ∧ (¬ (¬ (flg b q = 8 ∧ (wq b q).toInt = 1) ∧ ((fo b q).toInt = 0 ∨ ((psz b q).toInt = 0 ∧ (tsv b q).toInt = 0 ∧ mth b q = 0 ∧ flg b q = 0 ∧ (wq b q).toInt = 0))) → j_X2_hasKnownSizes_99 a M = some (0, M)) := by
  obtain ⟨k1, k2⟩ := f_117 hb hr hg
  obtain ⟨f0, f1, f2, f3, f4, f5, f6, f7, f11, l12, l13, l14, l17⟩ := hr
  obtain ⟨g8, g10, g15, g16, _⟩ := hg
  have hw := wq_01 b q
  have hfl := n2_lt hb (q + 8)
  have ef : nm b (q + 8) 2 = flg b q := rfl
  rw [ef] at hfl
  unfold j_X2_hasKnownSizes_99
  rw [f1, g10, ef]
  simp only [chZ_0, eqc, t3_0, t3_8]
  rw [nI_toInt (by omega)]
  refine ⟨fun h => ?_, fun h => ?_⟩
  · rw [k1 h.2]
    repeat' split
    all_goals first | rfl | (exfalso; omega)
  · by_cases h2 : (fo b q).toInt = 0 ∨ ((psz b q).toInt = 0 ∧ (tsv b q).toInt = 0 ∧ mth b q = 0 ∧ flg b q = 0 ∧ (wq b q).toInt = 0)
    · rw [if_pos (by omega), if_neg (by omega)]
    · rw [k2 h2]
      repeat' split
      all_goals rfl
theorem f_27 {M : Me} {b : Nat → Nat} {a q : Nat} {s0 : Int32} (hb : Bb b) (hr : RF M b a q) (hg : RG M b a q) (h4 : C4 b q) : ((s0.toInt = (wq b q).toInt ∧ ((fo b q).toInt = 1 → ((psz b q).toInt = 0 ∧ (tsv b q).toInt = 0 ∧ mth b q = 0 ∧ flg b q = 0 ∧ (wq b q).toInt = 0)) ∧ (mth b q = 8 ∨ (psz b q).toInt = (tsv b q).toInt) ∧ (0 ≤ (psz b q).toInt ∧ (psz b q).toInt ≤ 40) ∧ (0 ≤ (tsv b q).toInt ∧ (tsv b q).toInt ≤ 1000000) ∧ ¬ (flg b q = 8 ∧ (wq b q).toInt = 1)) → j_X2_hasKnownSizes_27 a s0 M = some (1, M)) ∧ (¬ (s0.toInt = (wq b q).toInt ∧ ((fo b q).toInt = 1 → ((psz b q).toInt = 0 ∧ (tsv b q).toInt = 0 ∧ mth b q = 0 ∧ flg b q = 0 ∧ (wq b q).toInt = 0)) ∧ (mth b q = 8 ∨ (psz b q).toInt = (tsv b q).toInt) ∧ (0 ≤ (psz b q).toInt ∧ (psz b q).toInt ≤ 40) ∧ (0 ≤ (tsv b q).toInt ∧ (tsv b q).toInt ≤ 1000000) ∧ ¬ (flg b q = 8 ∧ (wq b q).toInt = 1)) → j_X2_hasKnownSizes_27 a s0 M = some (0, M)) := by
  obtain ⟨k1, k2⟩ := f_99 hb hr hg
  obtain ⟨f0, f1, f2, f3, f4, f5, f6, f7, f11, l12, l13, l14, l17⟩ := hr
  obtain ⟨g8, g10, g15, g16, _⟩ := hg
  obtain ⟨⟨h41, h42, _⟩, _⟩ := h4
  have hfo := fo_01 b q
  have hm := n2_lt hb (q + 10)
  have em : nm b (q + 10) 2 = mth b q := rfl
  rw [em] at hm
  unfold j_X2_hasKnownSizes_27
  rw [f2, g10, em, g15, g16]
  simp only [lge, lgl, lgg, lgle]
  simp only [chZ_0, eqc, t3_0, t6_0, t6_40, t6_1000000]
  rw [nI_toInt (by omega)]
  refine ⟨fun h => ?_, fun h => ?_⟩
  · rw [k1 (by omega)]
    repeat' split
    all_goals first | rfl | (exfalso; omega)
  · by_cases h2 : ¬ (flg b q = 8 ∧ (wq b q).toInt = 1) ∧ ((fo b q).toInt = 0 ∨ ((psz b q).toInt = 0 ∧ (tsv b q).toInt = 0 ∧ mth b q = 0 ∧ flg b q = 0 ∧ (wq b q).toInt = 0))
    · rw [k1 h2]
      repeat' split
      all_goals first | rfl | (exfalso; omega)
    · rw [k2 h2]
      repeat' split
      all_goals rfl
theorem f_kS {M : Me} {b : Nat → Nat} {a q : Nat} (hb : Bb b) (hr : RF M b a q) (hg : RG M b a q) (h4 : C4 b q) : (C5 b q → f_X2_hasKnownSizes M a = some (1, M)) ∧ (¬ C5 b q → f_X2_hasKnownSizes M a = some (0, M)) := by
  have k1 := f_27 (s0 := 1) hb hr hg h4
  have k0 := f_27 (s0 := 0) hb hr hg h4
  rw [t3_1] at k1
  rw [t3_0] at k0
  have hw := wq_01 b q
  obtain ⟨f0, f1, f2, f3, f4, f5, f6, f7, f11, l12, l13, l14, l17⟩ := hr
  have h20 := n4_lt hb (q + 20)
  have h24 := n4_lt hb (q + 24)
  unfold f_X2_hasKnownSizes j_X2_hasKnownSizes_26
  rw [l13, l14]
  simp only [lge, t6_4294967295]
  rw [lN_tI (by omega), lN_tI (by omega)]
  by_cases hal : nm b (q + 20) 4 = 4294967295 ∧ nm b (q + 24) 4 = 4294967295
  · rw [if_pos (by omega), if_pos (by omega)]
    refine ⟨fun h => k1.1 ?_, fun h => k1.2 (fun z => h ?_)⟩
    · exact ⟨((h.1.mp hal)).symm, h.2⟩
    · exact ⟨⟨fun _ => z.1.symm, fun _ => hal⟩, z.2⟩
  · have e : (if ((nm b (q + 20) 4 : Nat) : Int) = 4294967295 then if ((nm b (q + 24) 4 : Nat) : Int) = 4294967295 then j_X2_hasKnownSizes_27 a 1 M else j_X2_hasKnownSizes_27 a 0 M else j_X2_hasKnownSizes_27 a 0 M) = j_X2_hasKnownSizes_27 a 0 M := by
      by_cases q1 : ((nm b (q + 20) 4 : Nat) : Int) = 4294967295
      · rw [if_pos q1, if_neg (by omega)]
      · rw [if_neg q1]
    rw [e]
    refine ⟨fun h => k0.1 ?_, fun h => k0.2 (fun z => h ?_)⟩
    · refine ⟨?_, h.2⟩
      rcases hw with hw | hw
      · exact hw.symm
      · exact absurd (h.1.mpr hw) hal
    · exact ⟨⟨fun z2 => absurd z2 hal, fun z2 => by have := z.1; omega⟩, z.2⟩
