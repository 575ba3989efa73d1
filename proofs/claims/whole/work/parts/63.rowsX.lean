/-! AN ENTRY'S BYTES -/
def nb (σ : Nat → Nat → Int32) (a k : Nat) : Nat := (σ a k).toBitVec.toNat % 256
theorem nb_of {σ : Nat → Nat → Int32} {a k : Nat} (h : isB (σ a k)) : σ a k = nI (nb σ a k) ∧ nb σ a k < 256 := by
  obtain ⟨v, hv, e⟩ := h
  unfold nb
  rw [e, pk_tn (by omega), Nat.mod_eq_of_lt hv]
  exact ⟨rfl, hv⟩
theorem nb_lt (σ : Nat → Nat → Int32) (a k : Nat) : nb σ a k < 256 := Nat.mod_lt _ (by decide)
def cn (σ : Nat → Nat → Int32) (a k : Nat) : Nat := (σ a k).toNatClampNeg
def exN (σ : Nat → Nat → Int32) (i : Nat) : Nat → Nat
  | 0 => if σ 93 i = 2 then 20 else 0
  | p + 1 => exN σ i p + (4 + cn σ 101 (3 * i + p))
def nameB (σ : Nat → Nat → Int32) (i : Nat) : List Nat := ml (fun k => nb σ 94 (16 * i + k)) (cn σ 95 i)
def wideB (σ : Nat → Nat → Int32) (i : Nat) : List Nat := if σ 93 i = 2 then lb 1 2 ++ (lb 16 2 ++ (lb (tsz σ i).toInt64 8 ++ lb (σ 104 i).toInt64 8)) else []
def part1 (σ : Nat → Nat → Int32) (i p : Nat) : List Nat := lb (σ 100 (3 * i + p)).toInt64 2 ++ (lb (σ 101 (3 * i + p)).toInt64 2 ++ ml (fun k => nb σ 102 (24 * i + (p * 8 + k))) (cn σ 101 (3 * i + p)))
def partB (σ : Nat → Nat → Int32) (i : Nat) : Nat → List Nat
  | 0 => []
  | p + 1 => partB σ i p ++ part1 σ i p
def neB (σ : Nat → Nat → Int32) (i : Nat) : List Nat := nameB σ i ++ (wideB σ i ++ partB σ i (cn σ 99 i))
def kindB (σ : Nat → Nat → Int32) (i : Nat) : List Nat := lb (if σ 93 i = 2 then 45 else 20) 2 ++ (lb (if σ 93 i = 1 then (8 : Int32) else 0).toInt64 2 ++ (lb (if σ 92 i = 1 then (8 : Int32) else 0).toInt64 2 ++ (lb (σ 96 i).toInt64 2 ++ lb (σ 97 i).toInt64 2)))
def ssB (σ : Nat → Nat → Int32) (i : Nat) : List Nat := lb (smv σ i).toInt64 4 ++ (lb (if σ 93 i = 2 then 4294967295 else (σ 104 i).toInt64) 4 ++ lb (if σ 93 i = 2 then 4294967295 else (tsz σ i).toInt64) 4)
def lenB (σ : Nat → Nat → Int32) (i : Nat) : List Nat := lb (σ 95 i).toInt64 2 ++ lb (nI (exN σ i (cn σ 99 i))).toInt64 2
def dataB (σ : Nat → Nat → Int32) (i : Nat) : List Nat := ml (fun k => nb σ 105 (40 * i + k)) (cn σ 104 i)
def behB (σ : Nat → Nat → Int32) (i : Nat) : List Nat := if σ 93 i = 1 then lb 134695760 4 ++ ssB σ i else []
def bareB (σ : Nat → Nat → Int32) (i : Nat) : List Nat := if σ 93 i = 1 then lb 0 4 ++ lb 0 8 else ssB σ i
def locB (σ : Nat → Nat → Int32) (i : Nat) : List Nat := lb 67324752 4 ++ (kindB σ i ++ (bareB σ i ++ (lenB σ i ++ (neB σ i ++ (dataB σ i ++ behB σ i)))))
def cenB (σ : Nat → Nat → Int32) (i : Nat) (v : Int32) : List Nat := lb 33639248 4 ++ (lb 20 2 ++ (kindB σ i ++ (ssB σ i ++ (lenB σ i ++ (lb 0 6 ++ (lb (σ 98 i).toInt64 4 ++ (lb v.toInt64 4 ++ neB σ i)))))))
/-! the tools -/
theorem PU.val {r p q : Nat} {f : Nat → Int32} {C : Me → Prop} {τ : Type} {E : Me → Option (τ × Me)} {r0 : τ} {G : τ → Me → Option (Unit × Me)} {l : List Nat} (h : ∀ M, C M → E M = some (r0, M)) (h2 : PU r p q f C (G r0) l) : PU r p q f C (fun M => cal (E M) (fun v M' => G v M')) l := PU.congr (fun M hC => by show cal (E M) _ = _; rw [h M hC, cal_s]) h2
theorem PU.chk {r p q : Nat} {f : Nat → Int32} {C : Me → Prop} {A : Me → Option (Unit × Me)} {l : List Nat} {j n : Nat} (h : j < n) (hn : n < 2 ^ 31) (h2 : PU r p q f C A l) : PU r p q f C (fun M => chk (nI j) n (A M)) l := PU.congr (fun M _ => chk_n _ h hn) h2
theorem PU.iteT {r p q : Nat} {f : Nat → Int32} {C : Me → Prop} {P : Me → Prop} [inst : ∀ M, Decidable (P M)] {A B : Me → Option (Unit × Me)} {l : List Nat} (h : ∀ M, C M → P M) (h2 : PU r p q f C A l) : PU r p q f C (fun M => if P M then A M else B M) l := PU.congr (fun M hC => if_pos (h M hC)) h2
theorem PU.iteF {r p q : Nat} {f : Nat → Int32} {C : Me → Prop} {P : Me → Prop} [inst : ∀ M, Decidable (P M)] {A B : Me → Option (Unit × Me)} {l : List Nat} (h : ∀ M, C M → ¬ P M) (h2 : PU r p q f C B l) : PU r p q f C (fun M => if P M then A M else B M) l := PU.congr (fun M hC => if_neg (h M hC)) h2
theorem PU.nX {C : Me → Prop} {V : Me → Int64} {v : Int64} {n : Nat} {G : Me → Option (Unit × Me)} {l : List Nat} (hs : St 3 2 1 bI C) (hn : n ≤ 8) (h : ∀ M, C M → V M = v) (h2 : PU 3 2 1 bI C G l) : PU 3 2 1 bI C (fun M => cal (f_X3_putNumber M 2 (V M) (nI n)) (fun _ M' => G M')) (lb v n ++ l) := PU.congr (G := fun M => cal (f_X3_putNumber M 2 v (nI n)) (fun _ M' => G M')) (fun M hC => by show cal (f_X3_putNumber M 2 (V M) (nI n)) _ = _; rw [h M hC]) (PU.seq (by decide) hs (p_numX hn) h2)
theorem PU.nXl {C : Me → Prop} {V : Me → Int64} {v : Int64} {n : Nat} (hn : n ≤ 8) (h : ∀ M, C M → V M = v) : PU 3 2 1 bI C (fun M => cal (f_X3_putNumber M 2 (V M) (nI n)) (fun _ M' => some ((), M'))) (lb v n) := PU.congr (G := fun M => cal (f_X3_putNumber M 2 v (nI n)) (fun _ M' => some ((), M'))) (fun M hC => by show cal (f_X3_putNumber M 2 (V M) (nI n)) _ = _; rw [h M hC]) (PU.last (p_numX hn))
theorem st_EX (σ : Nat → Nat → Int32) (i : Nat) : St 3 2 1 bI (fun M => EX M σ i) := fun M z l h => h.stab (fun x y h1 h2 h3 => ap_ne _ _ _ (by omega) (by omega))
/-! ZipForms -/
theorem f_exX {M : Me} {σ : Nat → Nat → Int32} {i : Nat} (h : EX M σ i) (e : EOK σ i) (hi : i < 12) : f_X0_extraLength M (19 + 6 * i) = some (nI (exN σ i (cn σ 99 i)), M) := by
  obtain ⟨nl, dl, pc, g1, g2, g3, g4, g5, g6, g7, g8, g9, g10, g11, g12, g13, g14⟩ := e
  have hc : cn σ 99 i = pc := by unfold cn; rw [g7, nI_clamp (by omega)]
  have hl := ln_e3 hi
  have hw : ∀ p, p < pc → M.1 (23 + 6 * i) p = nI (cn σ 101 (3 * i + p)) := by
    intro p hp
    obtain ⟨w, hw, ew⟩ := g14 p hp
    rw [h.psz (by omega)]
    unfold cn
    rw [ew, nI_clamp (by omega)]
  have key : ∀ s0 : Nat, s0 = exN σ i 0 → j_X0_extraLength_14 (19 + 6 * i) (nI s0) M = some (nI (exN σ i (cn σ 99 i)), M) := by
    intro s0 hs0
    subst hs0
    unfold j_X0_extraLength_14 l_X0_extraLength_17
    rw [hc]
    refine lp_run _ (fun p => (nI (exN σ i p), nI p, M)) pc _ (fun kb p hp => ?_) (fun kb => ?_) FU 0 (by omega) (by unfold FU; omega)
    · show g_X0_extraLength_17 _ kb (19 + 6 * i) (nI (exN σ i p)) (nI p) M = kb (nI (exN σ i p + (4 + cn σ 101 (3 * i + p))), nI (p + 1), M)
      unfold g_X0_extraLength_17
      rw [h.k9, g7, if_neg (nI_ge hp (by omega)), if_neg (show ¬ (3 : Int32) ≤ nI p from nI_ge (b := 3) (by omega) (by decide)), rf_e3 hi, chk_n _ (by omega) (by omega), nI_clamp (by omega), hw p hp, show (4 : Int32) = nI 4 from rfl, nI_add, nI_add, bndV_s, bndV_s, nI_1]
    · show g_X0_extraLength_17 _ kb (19 + 6 * i) (nI (exN σ i pc)) (nI pc) M = _
      unfold g_X0_extraLength_17
      rw [h.k9, g7, if_pos (nI_le (Nat.le_refl pc) (by omega))]
  unfold f_X0_extraLength
  rw [h.k6]
  by_cases q : σ 93 i = 2
  · rw [if_pos q]; exact key 20 (if_pos q).symm
  · rw [if_neg q]; exact key 0 (if_neg q).symm
theorem p_kindX {σ : Nat → Nat → Int32} {i : Nat} : PU 3 2 1 bI (fun M => EX M σ i) (fun M => f_X0_putKindOfRow M (19 + 6 * i) 2) (kindB σ i) := by
  unfold kindB
  have key : ∀ s0 : Int64, PU 3 2 1 bI (fun M => EX M σ i) (fun M => j_X0_putKindOfRow_18 (19 + 6 * i) 2 s0 2 M) (lb s0 2 ++ (lb (if σ 93 i = 1 then (8 : Int32) else 0).toInt64 2 ++ (lb (if σ 92 i = 1 then (8 : Int32) else 0).toInt64 2 ++ (lb (σ 96 i).toInt64 2 ++ lb (σ 97 i).toInt64 2)))) := by
    intro s0
    unfold j_X0_putKindOfRow_18
    refine PU.nX (n := 2) (st_EX σ i) (by decide) (fun M hC => rfl) ?_
    refine PU.val (r0 := if σ 93 i = 1 then (8 : Int32) else 0) (fun M hC => ?_) ?_
    · unfold f_X0_flags
      rw [hC.k6]
      by_cases q : σ 93 i = 1
      · rw [if_pos q, if_pos q]
      · rw [if_neg q, if_neg q]
    refine PU.nX (n := 2) (st_EX σ i) (by decide) (fun M hC => rfl) ?_
    refine PU.val (r0 := if σ 92 i = 1 then (8 : Int32) else 0) (fun M hC => ?_) ?_
    · unfold f_X0_method
      rw [hC.k5]
      by_cases q : σ 92 i = 1
      · rw [if_pos q, if_pos q]
      · rw [if_neg q, if_neg q]
    refine PU.nX (n := 2) (st_EX σ i) (by decide) (fun M hC => rfl) ?_
    refine PU.nX (n := 2) (st_EX σ i) (by decide) (fun M hC => by rw [hC.k14]) ?_
    exact PU.nXl (n := 2) (by decide) (fun M hC => by rw [hC.k15])
  unfold f_X0_putKindOfRow
  by_cases q : σ 93 i = 2
  · rw [if_pos q]; exact PU.iteT (fun M hC => by rw [hC.k6]; exact q) (key 45)
  · rw [if_neg q]; exact PU.iteF (fun M hC => by rw [hC.k6]; exact q) (key 20)
theorem p_ssX {σ : Nat → Nat → Int32} {i : Nat} (e : EOK σ i) (hi : i < 12) : PU 3 2 1 bI (fun M => EX M σ i) (fun M => f_X0_putSumAndSizes M (19 + 6 * i) 2) (ssB σ i) := by
  unfold ssB f_X0_putSumAndSizes j_X0_putSumAndSizes_30 j_X0_putSumAndSizes_54
  refine PU.val (r0 := smv σ i) (fun M hC => f_smX hC e hi) ?_
  refine PU.nX (n := 4) (st_EX σ i) (by decide) (fun M hC => rfl) ?_
  by_cases q : σ 93 i = 2
  · rw [if_pos q, if_pos q]
    refine PU.iteT (fun M hC => by rw [hC.k6]; exact q) ?_
    refine PU.nX (n := 4) (st_EX σ i) (by decide) (fun M hC => rfl) ?_
    refine PU.iteT (fun M hC => by rw [hC.k6]; exact q) ?_
    exact PU.nXl (n := 4) (by decide) (fun M hC => rfl)
  · rw [if_neg q, if_neg q]
    refine PU.iteF (fun M hC => by rw [hC.k6]; exact q) ?_
    refine PU.nX (n := 4) (st_EX σ i) (by decide) (fun M hC => by rw [hC.k8]) ?_
    refine PU.iteF (fun M hC => by rw [hC.k6]; exact q) ?_
    refine PU.val (r0 := tsz σ i) (fun M hC => f_tsX hC e) ?_
    exact PU.nXl (n := 4) (by decide) (fun M hC => rfl)
theorem PU.cX {C : Me → Prop} {a1 x2 n : Nat} {g : Nat → Nat} {X N : Me → Int32} {G : Me → Option (Unit × Me)} {l : List Nat} (hs : St 3 2 1 bI C) (hX : ∀ M, C M → X M = nI x2) (hN : ∀ M, C M → N M = nI n) (hC : ∀ M, C M → ∀ k, k < n → M.1 a1 (x2 + k) &&& 255 = nI (g k)) (hl1 : x2 + n ≤ ln a1) (hl2 : ln a1 < 1000) (h2 : PU 3 2 1 bI C G l) : PU 3 2 1 bI C (fun M => cal (f_X3_putCells M 2 a1 (X M) (N M)) (fun _ M' => G M')) (ml g n ++ l) := PU.congr (G := fun M => cal (f_X3_putCells M 2 a1 (nI x2) (nI n)) (fun _ M' => G M')) (fun M hM => by show cal (f_X3_putCells M 2 a1 (X M) (N M)) _ = _; rw [hX M hM, hN M hM]) (PU.seq (by decide) hs (p_celX hs hC hl1 hl2) h2)
/-- the parts' loop -/
theorem p_partX {σ : Nat → Nat → Int32} {i : Nat} (e : EOK σ i) (hb : Yb σ) (hi : i < 12) : PU 3 2 1 bI (fun M => EX M σ i) (fun M => j_X0_putNameAndExtra_57 (19 + 6 * i) 2 M) (partB σ i (cn σ 99 i)) := by
  obtain ⟨nl, dl, pc, g1, g2, g3, g4, g5, g6, g7, g8, g9, g10, g11, g12, g13, g14⟩ := e
  have hc : cn σ 99 i = pc := by unfold cn; rw [g7, nI_clamp (by omega)]
  have hl2 := ln_e2 hi
  have hl3 := ln_e3 hi
  have hl4 := ln_e4 hi
  rw [hc]
  intro M z hM hz hl
  have hsh : ∀ p, p ≤ pc → (partB σ i p).length ≤ (partB σ i pc).length := by
    intro p hp
    have h0 : ∀ d, (partB σ i p).length ≤ (partB σ i (p + d)).length := by
      intro d
      induction d with
      | zero => exact Nat.le_refl _
      | succ d ih =>
        show _ ≤ (partB σ i (p + d) ++ part1 σ i (p + d)).length
        rw [List.length_append]
        omega
    have := h0 (pc - p)
    rwa [show p + (pc - p) = pc by omega] at this
  show j_X0_putNameAndExtra_57 (19 + 6 * i) 2 M = _
  unfold j_X0_putNameAndExtra_57 l_X0_putNameAndExtra_59
  refine lp_for _ (fun p => ap 3 2 1 bI M z (partB σ i p)) pc _ (fun kb p hp => ?_) (fun kb => ?_) FU 0 (by omega) (by unfold FU; omega)
  · show g_X0_putNameAndExtra_59 _ kb (19 + 6 * i) 2 (nI p) (ap 3 2 1 bI M z (partB σ i p)) = kb (nI (p + 1), ap 3 2 1 bI M z (partB σ i p ++ part1 σ i p))
    have hE := st_EX σ i M z (partB σ i p) hM
    obtain ⟨A, hA⟩ : ∃ A, A = ap 3 2 1 bI M z (partB σ i p) := ⟨_, rfl⟩
    have hcA : A.1 2 1 = nI (z + (partB σ i p).length) := by rw [hA]; exact ap_cnt (by decide) _ _ _ hz
    rw [← hA] at hE
    rw [ap_app, ← hA]
    obtain ⟨w, hw, ew⟩ := g14 p hp
    have hcw : cn σ 101 (3 * i + p) = w := by unfold cn; rw [ew, nI_clamp (by omega)]
    unfold g_X0_putNameAndExtra_59
    rw [hE.k9, g7, if_neg (nI_ge hp (by omega)), if_neg (show ¬ (3 : Int32) ≤ nI p from nI_ge (b := 3) (by omega) (by decide)), rf_e2 hi, rf_e3 hi, rf_e4 hi, um_8, chk_n _ (by omega) (by omega)]
    have hput : PU 3 2 1 bI (fun M => EX M σ i) (fun M => cal (f_X3_putNumber M 2 (((M.1 (22 + 6 * i) (nI p).toNatClampNeg)).toInt64) (2 : Int32)) (fun _ M5 => chk (nI p) (ln (23 + 6 * i)) (cal (f_X3_putNumber M5 2 (((M5.1 (23 + 6 * i) (nI p).toNatClampNeg)).toInt64) (2 : Int32)) (fun _ M8 => chk (nI p) (ln (23 + 6 * i)) (cal (f_X3_putCells M8 2 (24 + 6 * i) (nI (p * 8)) (M8.1 (23 + 6 * i) (nI p).toNatClampNeg)) (fun _ M11 => some ((), M11))))))) (part1 σ i p) := by
      unfold part1
      rw [hcw]
      refine PU.nX (n := 2) (st_EX σ i) (by decide) (fun M hC => by rw [nI_clamp (by omega), hC.pid (by omega)]) ?_
      refine PU.chk (by omega) (by omega) ?_
      refine PU.nX (n := 2) (st_EX σ i) (by decide) (fun M hC => by rw [nI_clamp (by omega), hC.psz (by omega)]) ?_
      refine PU.chk (by omega) (by omega) ?_
      have h5 := PU.cX (C := fun M => EX M σ i) (a1 := 24 + 6 * i) (x2 := p * 8) (n := w) (g := fun k => nb σ 102 (24 * i + (p * 8 + k))) (X := fun _ => nI (p * 8)) (N := fun M => M.1 (23 + 6 * i) (nI p).toNatClampNeg) (st_EX σ i) (fun M hC => rfl) (fun M hC => by rw [nI_clamp (by omega), hC.psz (by omega)]; exact ew) (fun M hC k hk => by rw [hC.pby (show p * 8 + k < 24 by omega)]; exact (nb_of (hb.2.1 _ (by omega))).1) (by omega) (by omega) PU.done
      rw [List.append_nil] at h5
      exact h5
    have hlen := hsh (p + 1) (by omega)
    have hlen2 : (partB σ i (p + 1)).length = (partB σ i p).length + (part1 σ i p).length := by
      show (partB σ i p ++ part1 σ i p).length = _
      rw [List.length_append]
    have h6 := hput A (z + (partB σ i p).length) hE hcA (by omega)
    have h7 : ∀ (kb2 : Me → Option (Unit × Me)), cal (cal (f_X3_putNumber A 2 (((A.1 (22 + 6 * i) (nI p).toNatClampNeg)).toInt64) (2 : Int32)) (fun _ M5 => chk (nI p) (ln (23 + 6 * i)) (cal (f_X3_putNumber M5 2 (((M5.1 (23 + 6 * i) (nI p).toNatClampNeg)).toInt64) (2 : Int32)) (fun _ M8 => chk (nI p) (ln (23 + 6 * i)) (cal (f_X3_putCells M8 2 (24 + 6 * i) (nI (p * 8)) (M8.1 (23 + 6 * i) (nI p).toNatClampNeg)) (fun _ M11 => some ((), M11))))))) (fun _ M => kb2 M) = cal (f_X3_putNumber A 2 (((A.1 (22 + 6 * i) (nI p).toNatClampNeg)).toInt64) (2 : Int32)) (fun _ M5 => chk (nI p) (ln (23 + 6 * i)) (cal (f_X3_putNumber M5 2 (((M5.1 (23 + 6 * i) (nI p).toNatClampNeg)).toInt64) (2 : Int32)) (fun _ M8 => chk (nI p) (ln (23 + 6 * i)) (cal (f_X3_putCells M8 2 (24 + 6 * i) (nI (p * 8)) (M8.1 (23 + 6 * i) (nI p).toNatClampNeg)) (fun _ M11 => kb2 M11))))) := by
      intro kb2
      have hck : ∀ {γ : Type} (A : Option γ), chk (nI p) (ln (23 + 6 * i)) A = A := fun A => chk_n A (by omega) (by omega)
      simp only [hck]
      cases f_X3_putNumber A 2 (((A.1 (22 + 6 * i) (nI p).toNatClampNeg)).toInt64) (2 : Int32) with
      | none => rfl
      | some v =>
        rw [cal_s, cal_s]
        cases f_X3_putNumber v.2 2 (((v.2.1 (23 + 6 * i) (nI p).toNatClampNeg)).toInt64) (2 : Int32) with
        | none => rfl
        | some w =>
          rw [cal_s, cal_s]
          cases f_X3_putCells w.2 2 (24 + 6 * i) (nI (p * 8)) (w.2.1 (23 + 6 * i) (nI p).toNatClampNeg) with
          | none => rfl
          | some u => rfl
    have h8 := h7 (fun M11 => bndV (nI p + (1 : Int32)) (fun v12 => kb (v12, M11)))
    have h6' : cal (f_X3_putNumber A 2 (((A.1 (22 + 6 * i) (nI p).toNatClampNeg)).toInt64) (2 : Int32)) (fun _ M5 => chk (nI p) (ln (23 + 6 * i)) (cal (f_X3_putNumber M5 2 (((M5.1 (23 + 6 * i) (nI p).toNatClampNeg)).toInt64) (2 : Int32)) (fun _ M8 => chk (nI p) (ln (23 + 6 * i)) (cal (f_X3_putCells M8 2 (24 + 6 * i) (nI (p * 8)) (M8.1 (23 + 6 * i) (nI p).toNatClampNeg)) (fun _ M11 => some ((), M11)))))) = some ((), ap 3 2 1 bI A (z + (partB σ i p).length) (part1 σ i p)) := h6
    rw [h6', cal_s] at h8
    refine h8.symm.trans ?_
    rw [bndV_s, nI_1]
  · show g_X0_putNameAndExtra_59 _ kb (19 + 6 * i) 2 (nI pc) (ap 3 2 1 bI M z (partB σ i pc)) = _
    have hE := st_EX σ i M z (partB σ i pc) hM
    unfold g_X0_putNameAndExtra_59
    rw [hE.k9, g7, if_pos (nI_le (Nat.le_refl pc) (by omega))]
