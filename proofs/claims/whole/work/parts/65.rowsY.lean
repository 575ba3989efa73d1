/-! THE REFERENCE puts the same bytes -/
def CP (C : Me → Prop) {γ : Type} (F K : Me → Option γ) (l : List Nat) : Prop := ∀ M z, C M → M.1 91 25 = nI z → z + l.length ≤ 2000 → F M = K (ap 111 91 25 nI M z l)
theorem CP.seq {C : Me → Prop} {γ : Type} {F G K : Me → Option γ} {l1 l2 : List Nat} (hs : St 111 91 25 nI C) (h1 : CP C F G l1) (h2 : CP C G K l2) : CP C F K (l1 ++ l2) := by
  intro M z hC hz hl
  rw [List.length_append] at hl
  rw [h1 M z hC hz (by omega), h2 _ _ (hs _ _ _ hC) (ap_cnt (by decide) _ _ _ hz) (by omega), ap_app]
theorem CP.fin {C : Me → Prop} {γ : Type} {F G K : Me → Option γ} {l : List Nat} (hs : St 111 91 25 nI C) (h1 : CP C F G l) (h2 : ∀ M, C M → G M = K M) : CP C F K l := fun M z hC hz hl => (h1 M z hC hz hl).trans (h2 _ (hs _ _ _ hC))
theorem CP.pre {C : Me → Prop} {γ : Type} {F G K : Me → Option γ} {l : List Nat} (h2 : ∀ M, C M → F M = G M) (h1 : CP C G K l) : CP C F K l := fun M z hC hz hl => (h2 M hC).trans (h1 M z hC hz hl)
theorem CP.nil {C : Me → Prop} {γ : Type} {F K : Me → Option γ} (h : ∀ M, C M → F M = K M) : CP C F K [] := fun M z hC _ _ => h M hC
theorem CP.val {C : Me → Prop} {γ τ : Type} {E : Me → Option (τ × Me)} {r0 : τ} {G : τ → Me → Option γ} {K : Me → Option γ} {l : List Nat} (h : ∀ M, C M → E M = some (r0, M)) (h2 : CP C (G r0) K l) : CP C (fun M => cal (E M) (fun v M' => G v M')) K l := CP.pre (fun M hC => by show cal (E M) _ = _; rw [h M hC, cal_s]) h2
theorem CP.chk {C : Me → Prop} {γ : Type} {A K : Me → Option γ} {l : List Nat} {j n : Nat} (h : j < n) (hn : n < 2 ^ 31) (h2 : CP C A K l) : CP C (fun M => chk (nI j) n (A M)) K l := CP.pre (fun M _ => chk_n _ h hn) h2
theorem CP.iteT {C : Me → Prop} {γ : Type} {P : Me → Prop} [inst : ∀ M, Decidable (P M)] {A B K : Me → Option γ} {l : List Nat} (h : ∀ M, C M → P M) (h2 : CP C A K l) : CP C (fun M => if P M then A M else B M) K l := CP.pre (fun M hC => if_pos (h M hC)) h2
theorem CP.iteF {C : Me → Prop} {γ : Type} {P : Me → Prop} [inst : ∀ M, Decidable (P M)] {A B K : Me → Option γ} {l : List Nat} (h : ∀ M, C M → ¬ P M) (h2 : CP C B K l) : CP C (fun M => if P M then A M else B M) K l := CP.pre (fun M hC => if_neg (h M hC)) h2
theorem CP.nY {C : Me → Prop} {γ : Type} {V : Me → Int64} {v : Int64} {n : Nat} {K : Me → Option γ} (hn : n ≤ 8) (h : ∀ M, C M → V M = v) : CP C (fun M => cal (f_X5_put M 91 (V M) (nI n)) (fun _ M' => K M')) K (lb v n) := fun M z hC hz hl => by
  show cal (f_X5_put M 91 (V M) (nI n)) _ = _
  rw [h M hC]
  have h1 : f_X5_put M 91 v (nI n) = _ := p_numY (C := C) (v := v) hn M z hC hz hl
  rw [h1, cal_s]
theorem CP.oY {C : Me → Prop} {γ : Type} {V : Me → Int64} {b : Nat} {K : Me → Option γ} (hb : b < 256) (h : ∀ M, C M → V M = (nI b).toInt64) : CP C (fun M => cal (f_X5_put M 91 (V M) 1) (fun _ M' => K M')) K [b] := fun M z hC hz hl => by
  show cal (f_X5_put M 91 (V M) 1) _ = _
  rw [h M hC]
  have h1 : f_X5_put M 91 (nI b).toInt64 1 = _ := p_oneY (C := C) hb M z hC hz hl
  rw [h1, cal_s]
theorem CP.call {C : Me → Prop} {γ : Type} {F : Me → Option (Unit × Me)} {K : Me → Option γ} {l : List Nat} (h : CP C F (fun M => some ((), M)) l) : CP C (fun M => cal (F M) (fun _ M' => K M')) K l := fun M z hC hz hl => by
  show cal (F M) _ = _
  rw [h M z hC hz hl, cal_s]
theorem CP.mono {C C' : Me → Prop} {γ : Type} {F K : Me → Option γ} {l : List Nat} (h2 : CP C' F K l) (h : ∀ M, C M → C' M) : CP C F K l := fun M z hC hz hl => h2 M z (h M hC) hz hl
def cat (L : Nat → List Nat) (j0 : Nat) : Nat → List Nat
  | 0 => []
  | t + 1 => cat L j0 t ++ L (j0 + t)
theorem cat_le (L : Nat → List Nat) (j0 : Nat) {s t : Nat} (h : s ≤ t) : (cat L j0 s).length ≤ (cat L j0 t).length := by
  have h0 : ∀ d, (cat L j0 s).length ≤ (cat L j0 (s + d)).length := by
    intro d
    induction d with
    | zero => exact Nat.le_refl _
    | succ d ih =>
      show _ ≤ (cat L j0 (s + d) ++ L (j0 + (s + d))).length
      rw [List.length_append]
      omega
  have := h0 (t - s)
  rwa [show s + (t - s) = t by omega] at this
theorem CP.loop {C : Me → Prop} {γ : Type} {g : (Int32 × Me → Option γ) → Int32 × Me → Option γ} {K : Me → Option γ} (L : Nat → List Nat) (j0 t : Nat) (ht : t < 3000) (hs : St 111 91 25 nI C) (hstep : ∀ kb j, j0 ≤ j → j < j0 + t → CP C (fun M => g kb (nI j, M)) (fun M => kb (nI (j + 1), M)) (L j)) (hend : ∀ kb M, C M → g kb (nI (j0 + t), M) = K M) : CP C (fun M => lp g FU (nI j0, M)) K (cat L j0 t) := by
  intro M z hC hz hl
  refine lp_run g (fun s => (nI (j0 + s), ap 111 91 25 nI M z (cat L j0 s))) t _ (fun kb s hs2 => ?_) (fun kb => ?_) FU 0 (by omega) (by unfold FU; omega)
  · show g kb (nI (j0 + s), _) = kb (nI (j0 + s + 1), ap 111 91 25 nI M z (cat L j0 s ++ L (j0 + s)))
    have h1 := cat_le L j0 (show s + 1 ≤ t by omega)
    have h2 : (cat L j0 (s + 1)).length = (cat L j0 s).length + (L (j0 + s)).length := by
      show (cat L j0 s ++ L (j0 + s)).length = _
      rw [List.length_append]
    rw [ap_app]
    exact hstep kb (j0 + s) (by omega) (by omega) _ _ (hs _ _ _ hC) (ap_cnt (by decide) _ _ _ hz) (by omega)
  · exact hend kb _ (hs _ _ _ hC)
theorem cat_ml (g : Nat → Nat) : ∀ n, cat (fun k => [g k]) 0 n = ml g n
  | 0 => rfl
  | n + 1 => by
    show cat (fun k => [g k]) 0 n ++ [g (0 + n)] = ml g n ++ [g n]
    rw [cat_ml g n, Nat.zero_add]
theorem cat_part (σ : Nat → Nat → Int32) (i : Nat) : ∀ t, cat (fun j => part1 σ i (j - 3 * i)) (3 * i) t = partB σ i t
  | 0 => rfl
  | t + 1 => by
    show cat (fun j => part1 σ i (j - 3 * i)) (3 * i) t ++ part1 σ i (3 * i + t - 3 * i) = partB σ i t ++ part1 σ i t
    rw [cat_part σ i t, Nat.add_sub_cancel_left]
theorem st_EY (σ : Nat → Nat → Int32) : St 111 91 25 nI (fun M => EY M σ) := fun M z l h a k h1 h2 => by rw [ap_ne _ _ _ (by omega) (by omega)]; exact h a k h1 h2
theorem f_exY {M : Me} {σ : Nat → Nat → Int32} {i : Nat} (h : EY M σ) (e : EOK σ i) (hi : i < 12) : f_X5_extraLong M 91 (nI i) = some (nI (exN σ i (cn σ 99 i)), M) := by
  obtain ⟨nl, dl, pc, g1, g2, g3, g4, g5, g6, g7, g8, g9, g10, g11, g12, g13, g14⟩ := e
  have hc : cn σ 99 i = pc := by unfold cn; rw [g7, nI_clamp (by omega)]
  have hw : ∀ p, p < pc → M.1 101 (3 * i + p) = nI (cn σ 101 (3 * i + p)) := by
    intro p hp
    obtain ⟨w, hw, ew⟩ := g14 p hp
    rw [h 101 _ (by omega) (by omega)]
    unfold cn
    rw [ew, nI_clamp (by omega)]
  have key : ∀ s0 : Nat, s0 = exN σ i 0 → j_X5_extraLong_16 91 (nI i) (nI s0) M = some (nI (exN σ i (cn σ 99 i)), M) := by
    intro s0 hs0
    subst hs0
    unfold j_X5_extraLong_16 l_X5_extraLong_19
    rw [hc]
    refine lp_run _ (fun p => (nI (exN σ i p), nI p, M)) pc _ (fun kb p hp => ?_) (fun kb => ?_) FU 0 (by omega) (by unfold FU; omega)
    · show g_X5_extraLong_19 _ kb 91 (nI i) (nI (exN σ i p)) (nI p) M = kb (nI (exN σ i p + (4 + cn σ 101 (3 * i + p))), nI (p + 1), M)
      unfold g_X5_extraLong_19
      rw [rf_91_10, rf_91_12, chk_n _ (show i < ln 99 by rw [ln_99]; omega) (by decide), nI_clamp (show i < 2 ^ 31 by omega), h 99 i (by omega) (by omega), g7, if_neg (nI_ge hp (by omega)), mu_3, nI_add, chk_n _ (show 3 * i + p < ln 101 by rw [ln_101]; omega) (by decide), nI_clamp (by omega), hw p hp, show (4 : Int32) = nI 4 from rfl, nI_add, nI_add, bndV_s, bndV_s, nI_1]
    · show g_X5_extraLong_19 _ kb 91 (nI i) (nI (exN σ i pc)) (nI pc) M = _
      unfold g_X5_extraLong_19
      rw [rf_91_10, chk_n _ (show i < ln 99 by rw [ln_99]; omega) (by decide), nI_clamp (show i < 2 ^ 31 by omega), h 99 i (by omega) (by omega), g7, if_pos (nI_le (Nat.le_refl pc) (by omega))]
  unfold f_X5_extraLong
  rw [rf_91_4, chk_n _ (show i < ln 93 by rw [ln_93]; omega) (by decide), nI_clamp (show i < 2 ^ 31 by omega), h 93 i (by omega) (by omega)]
  by_cases q : σ 93 i = 2
  · rw [if_pos q]; exact key 20 (if_pos q).symm
  · rw [if_neg q]; exact key 0 (if_neg q).symm
/-- an entry's number of row a -/
theorem EY.at {M : Me} {σ : Nat → Nat → Int32} (h : EY M σ) {a i : Nat} (h1 : 92 ≤ a) (h2 : a ≤ 108) (hi : i < 12) : M.1 a (nI i).toNatClampNeg = σ a i := by rw [nI_clamp (by omega)]; exact h a i h1 h2
theorem p_name2Y {σ : Nat → Nat → Int32} {i : Nat} {kx : Int32 → Me → Option (Unit × Me)} (e : EOK σ i) (hb : Yb σ) (hi : i < 12) : CP (fun M => EY M σ) (fun M => l_X5_putName_2 kx 91 (nI i) 0 M) (fun M => kx (nI (cn σ 95 i)) M) (nameB σ i) := by
  obtain ⟨nl, dl, pc, g1, g2, g3, g4, g5, g6, g7, g8, g9, g10, g11, g12, g13, g14⟩ := e
  have hc : cn σ 95 i = nl := by unfold cn; rw [g5, nI_clamp (by omega)]
  unfold nameB l_X5_putName_2
  rw [hc, ← cat_ml]
  refine CP.loop (C := fun M => EY M σ) _ 0 nl (by omega) (st_EY σ) (fun kb j _ hj => ?_) (fun kb M hM => ?_)
  · show CP _ (fun M => g_X5_putName_2 kx kb 91 (nI i) (nI j) M) _ _
    unfold g_X5_putName_2
    rw [rf_91_6, rf_91_5, mu_16, nI_add]
    refine CP.chk (show i < ln 95 by rw [ln_95]; omega) (by decide) ?_
    refine CP.iteF (fun M hC => by rw [hC.at (by omega) (by omega) hi, g5]; exact nI_ge (by omega) (by omega)) ?_
    refine CP.chk (show 16 * i + j < ln 94 by rw [ln_94]; omega) (by decide) ?_
    refine CP.fin (st_EY σ) (CP.oY (b := nb σ 94 (16 * i + j)) (nb_of (hb.1 _ (by omega))).2 (fun M hC => by rw [nI_clamp (by omega), hC 94 _ (by omega) (by omega), ← (nb_of (hb.1 _ (by omega))).1])) (fun M hC => by rw [bndV_s, nI_1])
  · show g_X5_putName_2 kx kb 91 (nI i) (nI (0 + nl)) M = _
    unfold g_X5_putName_2
    rw [rf_91_6, chk_n _ (show i < ln 95 by rw [ln_95]; omega) (by decide), hM.at (by omega) (by omega) hi, g5, Nat.zero_add, if_pos (nI_le (Nat.le_refl nl) (by omega))]
theorem p_name128Y {σ : Nat → Nat → Int32} {i p : Nat} {kx : Int32 → Me → Option (Unit × Me)} (hw : cn σ 101 (3 * i + p) ≤ 8) (ew : σ 101 (3 * i + p) = nI (cn σ 101 (3 * i + p))) (hb : Yb σ) (hi : i < 12) (hp : p < 3) : CP (fun M => EY M σ) (fun M => l_X5_putName_128 kx 91 (nI i) (nI (3 * i + p)) 0 M) (fun M => kx (nI (cn σ 101 (3 * i + p))) M) (ml (fun k => nb σ 102 (24 * i + (p * 8 + k))) (cn σ 101 (3 * i + p))) := by
  obtain ⟨w, hwe⟩ : ∃ w, w = cn σ 101 (3 * i + p) := ⟨_, rfl⟩
  rw [← hwe] at hw ew ⊢
  unfold l_X5_putName_128
  rw [← cat_ml]
  refine CP.loop (C := fun M => EY M σ) _ 0 w (by omega) (st_EY σ) (fun kb j _ hj => ?_) (fun kb M hM => ?_)
  · show CP _ (fun M => g_X5_putName_128 kx kb 91 (nI i) (nI (3 * i + p)) (nI j) M) _ [nb σ 102 (24 * i + (p * 8 + j))]
    unfold g_X5_putName_128
    rw [rf_91_12, rf_91_13, mu_8, nI_add, show 8 * (3 * i + p) + j = 24 * i + (p * 8 + j) by omega]
    refine CP.chk (show 3 * i + p < ln 101 by rw [ln_101]; omega) (by decide) ?_
    refine CP.iteF (fun M hC => by rw [nI_clamp (by omega), hC 101 _ (by omega) (by omega), ew]; exact nI_ge (by omega) (by omega)) ?_
    refine CP.chk (show 24 * i + (p * 8 + j) < ln 102 by rw [ln_102]; omega) (by decide) ?_
    refine CP.fin (st_EY σ) (CP.oY (b := nb σ 102 (24 * i + (p * 8 + j))) (nb_of (hb.2.1 _ (by omega))).2 (fun M hC => by rw [nI_clamp (by omega), hC 102 _ (by omega) (by omega), ← (nb_of (hb.2.1 _ (by omega))).1])) (fun M hC => by rw [bndV_s, nI_1])
  · show g_X5_putName_128 kx kb 91 (nI i) (nI (3 * i + p)) (nI (0 + w)) M = _
    unfold g_X5_putName_128
    rw [rf_91_12, chk_n _ (show 3 * i + p < ln 101 by rw [ln_101]; omega) (by decide), nI_clamp (by omega), hM 101 _ (by omega) (by omega), ew, Nat.zero_add, if_pos (nI_le (Nat.le_refl w) (by omega))]
theorem p_partY {σ : Nat → Nat → Int32} {i : Nat} (e : EOK σ i) (hb : Yb σ) (hi : i < 12) : CP (fun M => EY M σ) (fun M => j_X5_putName_84 91 (nI i) M) (fun M => some ((), M)) (partB σ i (cn σ 99 i)) := by
  obtain ⟨nl, dl, pc, g1, g2, g3, g4, g5, g6, g7, g8, g9, g10, g11, g12, g13, g14⟩ := e
  have hc : cn σ 99 i = pc := by unfold cn; rw [g7, nI_clamp (by omega)]
  rw [hc, ← cat_part]
  unfold j_X5_putName_84
  refine CP.pre (G := fun M => l_X5_putName_88 (fun v25 M26 => some ((), M26)) 91 (nI i) (nI (3 * i)) M) (fun M hC => by rw [bndV_s, mu_3]) ?_
  unfold l_X5_putName_88
  refine CP.loop (C := fun M => EY M σ) _ (3 * i) pc (by omega) (st_EY σ) (fun kb j hj0 hj => ?_) (fun kb M hM => ?_)
  · show CP _ (fun M => g_X5_putName_88 _ kb 91 (nI i) (nI j) M) _ (part1 σ i (j - 3 * i))
    obtain ⟨p, ep⟩ : ∃ p, j = 3 * i + p := ⟨j - 3 * i, by omega⟩
    subst ep
    rw [Nat.add_sub_cancel_left]
    obtain ⟨w, hw, ew⟩ := g14 p (by omega)
    have hcw : cn σ 101 (3 * i + p) = w := by unfold cn; rw [ew, nI_clamp (by omega)]
    unfold g_X5_putName_88 part1
    rw [rf_91_10, rf_91_11, rf_91_12, mu_3]
    refine CP.chk (show i < ln 99 by rw [ln_99]; omega) (by decide) ?_
    refine CP.iteF (fun M hC => by rw [hC.at (by omega) (by omega) hi, g7, nI_add]; exact nI_ge (by omega) (by omega)) ?_
    refine CP.chk (show 3 * i + p < ln 100 by rw [ln_100]; omega) (by decide) ?_
    refine CP.seq (st_EY σ) (CP.nY (n := 2) (by decide) (fun M hC => by rw [nI_clamp (by omega), hC 100 _ (by omega) (by omega)])) ?_
    refine CP.chk (show 3 * i + p < ln 101 by rw [ln_101]; omega) (by decide) ?_
    refine CP.seq (st_EY σ) (CP.nY (n := 2) (by decide) (fun M hC => by rw [nI_clamp (by omega), hC 101 _ (by omega) (by omega)])) ?_
    refine CP.fin (st_EY σ) (p_name128Y (by omega) (by rw [hcw]; exact ew) hb hi (by omega)) (fun M hC => by rw [bndV_s, nI_1])
  · show g_X5_putName_88 _ kb 91 (nI i) (nI (3 * i + pc)) M = _
    unfold g_X5_putName_88
    rw [rf_91_10, mu_3, chk_n _ (show i < ln 99 by rw [ln_99]; omega) (by decide), hM.at (by omega) (by omega) hi, g7, nI_add, if_pos (nI_le (Nat.le_refl _) (by omega))]
theorem p_neY {σ : Nat → Nat → Int32} {i : Nat} (e : EOK σ i) (hb : Yb σ) (hi : i < 12) : CP (fun M => EY M σ) (fun M => f_X5_putName M 91 (nI i)) (fun M => some ((), M)) (neB σ i) := by
  unfold neB f_X5_putName
  refine CP.seq (st_EY σ) (p_name2Y e hb hi) ?_
  unfold wideB
  rw [rf_91_4]
  refine CP.chk (show i < ln 93 by rw [ln_93]; omega) (by decide) ?_
  by_cases q : σ 93 i = 2
  · rw [if_pos q]
    refine CP.iteT (fun M hC => by rw [hC.at (by omega) (by omega) hi]; exact q) ?_
    rw [List.append_assoc, List.append_assoc, List.append_assoc, rf_91_15]
    refine CP.seq (st_EY σ) (CP.nY (n := 2) (by decide) (fun M hC => rfl)) ?_
    refine CP.seq (st_EY σ) (CP.nY (n := 2) (by decide) (fun M hC => rfl)) ?_
    refine CP.val (r0 := tsz σ i) (fun M hC => f_tsY hC hi) ?_
    refine CP.seq (st_EY σ) (CP.nY (n := 8) (by decide) (fun M hC => rfl)) ?_
    refine CP.chk (show i < ln 104 by rw [ln_104]; omega) (by decide) ?_
    exact CP.seq (st_EY σ) (CP.nY (n := 8) (by decide) (fun M hC => by rw [hC.at (by omega) (by omega) hi])) (p_partY e hb hi)
  · rw [if_neg q]
    exact CP.iteF (fun M hC => by rw [hC.at (by omega) (by omega) hi]; exact q) (p_partY e hb hi)
