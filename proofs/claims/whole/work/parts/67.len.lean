/-! HOW MANY BYTES -/
theorem part_len {σ : Nat → Nat → Int32} {i : Nat} : ∀ p, (partB σ i p).length + (if σ 93 i = 2 then 20 else 0) = exN σ i p
  | 0 => by
    show 0 + _ = exN σ i 0
    rw [Nat.zero_add]
    rfl
  | p + 1 => by
    show (partB σ i p ++ part1 σ i p).length + _ = exN σ i p + (4 + cn σ 101 (3 * i + p))
    rw [← part_len p, List.length_append]
    unfold part1
    rw [List.length_append, List.length_append, lb_len, lb_len, ml_len]
    omega
theorem ne_len (σ : Nat → Nat → Int32) (i : Nat) : (neB σ i).length = cn σ 95 i + exN σ i (cn σ 99 i) := by
  unfold neB nameB wideB
  rw [List.length_append, List.length_append, ml_len, ← part_len]
  by_cases q : σ 93 i = 2
  · rw [if_pos q, if_pos q, List.length_append, List.length_append, List.length_append, lb_len, lb_len, lb_len, lb_len]
    omega
  · rw [if_neg q, if_neg q]
    show _ + (0 + _) = _
    omega
theorem kind_len (σ : Nat → Nat → Int32) (i : Nat) : (kindB σ i).length = 10 := by
  unfold kindB
  rw [List.length_append, List.length_append, List.length_append, List.length_append, lb_len, lb_len, lb_len, lb_len, lb_len]
theorem ss_len (σ : Nat → Nat → Int32) (i : Nat) : (ssB σ i).length = 12 := by
  unfold ssB
  rw [List.length_append, List.length_append, lb_len, lb_len, lb_len]
theorem len_len (σ : Nat → Nat → Int32) (i : Nat) : (lenB σ i).length = 4 := by
  unfold lenB
  rw [List.length_append, lb_len, lb_len]
def locL (σ : Nat → Nat → Int32) (i : Nat) : Nat := 30 + cn σ 95 i + exN σ i (cn σ 99 i) + cn σ 104 i + (if σ 93 i = 1 then 16 else 0)
def cenL (σ : Nat → Nat → Int32) (i : Nat) : Nat := 46 + cn σ 95 i + exN σ i (cn σ 99 i)
theorem loc_len (σ : Nat → Nat → Int32) (i : Nat) : (locB σ i).length = locL σ i := by
  unfold locB locL bareB dataB behB
  rw [List.length_append, List.length_append, List.length_append, List.length_append, List.length_append, List.length_append, lb_len, kind_len, len_len, ne_len, ml_len]
  by_cases q : σ 93 i = 1
  · rw [if_pos q, if_pos q, if_pos q, List.length_append, List.length_append, lb_len, lb_len, lb_len, ss_len]
    omega
  · rw [if_neg q, if_neg q, if_neg q, ss_len]
    show _ + (_ + (_ + (_ + (_ + (_ + 0))))) = _
    omega
theorem cen_len (σ : Nat → Nat → Int32) (i : Nat) (v : Int32) : (cenB σ i v).length = cenL σ i := by
  unfold cenB cenL
  rw [List.length_append, List.length_append, List.length_append, List.length_append, List.length_append, List.length_append, List.length_append, List.length_append, lb_len, lb_len, lb_len, lb_len, lb_len, kind_len, len_len, ne_len, ss_len]
  omega
theorem end_len (σ : Nat → Nat → Int32) (n c zc ze : Nat) : (endB σ n c zc ze).length = 22 + c := by
  unfold endB
  simp only [List.length_append, lb_len, ml_len]
  omega
theorem exN_le {σ : Nat → Nat → Int32} {i : Nat} (e : EOK σ i) : exN σ i (cn σ 99 i) ≤ 56 := by
  obtain ⟨nl, dl, pc, g1, g2, g3, g4, g5, g6, g7, g8, g9, g10, g11, g12, g13, g14⟩ := e
  have hc : cn σ 99 i = pc := by unfold cn; rw [g7, nI_clamp (by omega)]
  rw [hc]
  have key : ∀ p, p ≤ pc → exN σ i p ≤ 20 + 12 * p := by
    intro p
    induction p with
    | zero =>
      intro _
      show (if σ 93 i = 2 then 20 else 0) ≤ 20
      by_cases q : σ 93 i = 2
      · rw [if_pos q]; exact Nat.le_refl _
      · rw [if_neg q]; omega
    | succ p ih =>
      intro hp
      obtain ⟨w, hw, ew⟩ := g14 p (by omega)
      have hcw : cn σ 101 (3 * i + p) = w := by unfold cn; rw [ew, nI_clamp (by omega)]
      show exN σ i p + (4 + cn σ 101 (3 * i + p)) ≤ _
      have := ih (by omega)
      omega
  have := key pc (Nat.le_refl _)
  omega
theorem locL_le {σ : Nat → Nat → Int32} {i : Nat} (e : EOK σ i) : locL σ i ≤ 158 := by
  have h1 := exN_le e
  obtain ⟨nl, dl, pc, g1, g2, g3, g4, g5, g6, g7, _⟩ := e
  have hc1 : cn σ 95 i = nl := by unfold cn; rw [g5, nI_clamp (by omega)]
  have hc2 : cn σ 104 i = dl := by unfold cn; rw [g6, nI_clamp (by omega)]
  unfold locL
  by_cases q : σ 93 i = 1
  · rw [if_pos q]; omega
  · rw [if_neg q]; omega
theorem cenL_le {σ : Nat → Nat → Int32} {i : Nat} (e : EOK σ i) : cenL σ i ≤ 118 := by
  have h1 := exN_le e
  obtain ⟨nl, dl, pc, g1, g2, g3, g4, g5, g6, g7, _⟩ := e
  have hc1 : cn σ 95 i = nl := by unfold cn; rw [g5, nI_clamp (by omega)]
  unfold cenL
  omega
theorem f_llX {M : Me} {σ : Nat → Nat → Int32} {i : Nat} (h : EX M σ i) (e : EOK σ i) (hi : i < 12) : f_X0_localLength M (19 + 6 * i) = some (nI (locL σ i), M) := by
  have hx := f_exX h e hi
  obtain ⟨nl, dl, pc, g1, g2, g3, g4, g5, g6, g7, _⟩ := e
  have hc1 : cn σ 95 i = nl := by unfold cn; rw [g5, nI_clamp (by omega)]
  have hc2 : cn σ 104 i = dl := by unfold cn; rw [g6, nI_clamp (by omega)]
  unfold f_X0_localLength j_X0_localLength_14 locL
  rw [hx, cal_s, cal_s, h.k6, h.k7, h.k8, g5, g6, hc1, hc2, show (30 : Int32) = nI 30 from rfl, show (16 : Int32) = nI 16 from rfl, show (0 : Int32) = nI 0 from rfl, nI_add, nI_add, nI_add, nI_add, nI_add]
  by_cases q : σ 93 i = 1
  · rw [if_pos q, if_pos q]
  · rw [if_neg q, if_neg q]
theorem f_llY {M : Me} {σ : Nat → Nat → Int32} {i : Nat} (h : EY M σ) (e : EOK σ i) (hi : i < 12) : f_X5_localLong M 91 (nI i) = some (nI (locL σ i), M) := by
  have hx := f_exY h e hi
  obtain ⟨nl, dl, pc, g1, g2, g3, g4, g5, g6, g7, _⟩ := e
  have hc1 : cn σ 95 i = nl := by unfold cn; rw [g5, nI_clamp (by omega)]
  have hc2 : cn σ 104 i = dl := by unfold cn; rw [g6, nI_clamp (by omega)]
  unfold f_X5_localLong locL
  rw [hx, cal_s, rf_91_6, rf_91_15, rf_91_4, chk_n _ (show i < ln 95 by rw [ln_95]; omega) (by decide), chk_n _ (show i < ln 104 by rw [ln_104]; omega) (by decide), chk_n _ (show i < ln 93 by rw [ln_93]; omega) (by decide), h.at (by omega) (by omega) hi, h.at (by omega) (by omega) hi, h.at (by omega) (by omega) hi, g5, g6, hc1, hc2, show (30 : Int32) = nI 30 from rfl, show (16 : Int32) = nI 16 from rfl, show (0 : Int32) = nI 0 from rfl, nI_add, nI_add, nI_add, nI_add, nI_add]
  by_cases q : σ 93 i = 1
  · rw [if_pos q, if_pos q]
  · rw [if_neg q, if_neg q]
theorem f_clX {M : Me} {σ : Nat → Nat → Int32} {i : Nat} (h : EX M σ i) (e : EOK σ i) (hi : i < 12) : f_X0_centreLength M (19 + 6 * i) = some (nI (cenL σ i), M) := by
  have hx := f_exX h e hi
  obtain ⟨nl, dl, pc, g1, g2, g3, g4, g5, g6, g7, _⟩ := e
  have hc1 : cn σ 95 i = nl := by unfold cn; rw [g5, nI_clamp (by omega)]
  unfold f_X0_centreLength cenL
  rw [hx, cal_s, h.k7, g5, hc1, show (46 : Int32) = nI 46 from rfl, nI_add, nI_add]
theorem f_clY {M : Me} {σ : Nat → Nat → Int32} {i : Nat} (h : EY M σ) (e : EOK σ i) (hi : i < 12) : f_X5_centreLong M 91 (nI i) = some (nI (cenL σ i), M) := by
  have hx := f_exY h e hi
  obtain ⟨nl, dl, pc, g1, g2, g3, g4, g5, g6, g7, _⟩ := e
  have hc1 : cn σ 95 i = nl := by unfold cn; rw [g5, nI_clamp (by omega)]
  unfold f_X5_centreLong cenL
  rw [hx, cal_s, rf_91_6, chk_n _ (show i < ln 95 by rw [ln_95]; omega) (by decide), h.at (by omega) (by omega) hi, g5, hc1, show (46 : Int32) = nI 46 from rfl, nI_add, nI_add]
/-- all that goes(f) puts behind, the end row aside -/
def lenS (σ : Nat → Nat → Int32) (f : Nat) : Nat → Nat
  | 0 => 0
  | e + 1 => lenS σ f e + (cenL σ e + (if f ≤ e then locL σ e else 0))
theorem lenS_le {σ : Nat → Nat → Int32} {f n : Nat} (hE : ∀ i, i < n → EOK σ i) : ∀ e, e ≤ n → lenS σ f e ≤ 276 * e
  | 0, _ => Nat.le_refl _
  | e + 1, h => by
    have h1 := lenS_le (f := f) hE e (by omega)
    have h2 := locL_le (hE e (by omega))
    have h3 := cenL_le (hE e (by omega))
    show lenS σ f e + (cenL σ e + (if f ≤ e then locL σ e else 0)) ≤ _
    by_cases q : f ≤ e
    · rw [if_pos q]; omega
    · rw [if_neg q]; omega
theorem f_lfX {M : Me} {σ : Nat → Nat → Int32} {n c f : Nat} (hn : n ≤ 12) (hcl : c ≤ 12) (hf : f ≤ n) (hX : ∀ i, i < n → EX M σ i) (hE : ∀ i, i < n → EOK σ i) (h4 : M.1 0 4 = nI n) (h5 : M.1 0 5 = nI c) : f_X4_lengthFrom M 0 (nI f) = some (nI (22 + c + lenS σ f n), M) := by
  unfold f_X4_lengthFrom
  rw [h5, show (22 : Int32) = nI 22 from rfl, nI_add, bndV_s]
  unfold l_X4_lengthFrom_10
  refine lp_run _ (fun e => (nI (22 + c + lenS σ f e), nI e, M)) n _ (fun kb e he => ?_) (fun kb => ?_) FU 0 (by omega) (by unfold FU; omega)
  · show g_X4_lengthFrom_10 _ kb 0 (nI f) (nI (22 + c + lenS σ f e)) (nI e) M = kb (nI (22 + c + (lenS σ f e + (cenL σ e + (if f ≤ e then locL σ e else 0)))), nI (e + 1), M)
    unfold g_X4_lengthFrom_10 j_X4_lengthFrom_47
    rw [h4, if_neg (nI_ge he (by omega)), rf_0_0, chk_n _ (show e < ln 1 by rw [ln_1]; omega) (by decide), nI_clamp (by omega), rf_E, f_clX (hX e he) (hE e he) (by omega), cal_s, nI_add, bndV_s, chk_n _ (show e < ln 1 by rw [ln_1]; omega) (by decide), f_llX (hX e he) (hE e he) (by omega), cal_s, nI_add, bndV_s, bndV_s, bndV_s, nI_1]
    by_cases q : f ≤ e
    · rw [if_neg (nI_nlt (a := e) (b := f) q (by omega)), if_pos q]
      rw [show 22 + c + lenS σ f e + cenL σ e + locL σ e = 22 + c + (lenS σ f e + (cenL σ e + locL σ e)) by omega]
    · rw [if_pos (nI_lt (show e < f by omega) (by omega)), if_neg q]
      rw [show 22 + c + lenS σ f e + cenL σ e = 22 + c + (lenS σ f e + (cenL σ e + 0)) by omega]
  · show g_X4_lengthFrom_10 _ kb 0 (nI f) (nI (22 + c + lenS σ f n)) (nI n) M = _
    unfold g_X4_lengthFrom_10
    rw [h4, if_pos (nI_le (Nat.le_refl n) (by omega))]
theorem l_lfY {M : Me} {σ : Nat → Nat → Int32} {n c f z : Nat} {kx : Int32 → Int32 → Me → Option (Int32 × Me)} {x2 : Int32} (hn : n ≤ 12) (hcl : c ≤ 12) (hf : f ≤ n) (hY : EY M σ) (hE : ∀ i, i < n → EOK σ i) (h2 : M.1 91 2 = nI n) : l_X5_goes_26 kx 91 (nI f) x2 (nI (z + 22 + c)) 0 M = kx (nI (z + 22 + c + lenS σ f n)) (nI n) M := by
  unfold l_X5_goes_26
  refine lp_run _ (fun e => (nI (z + 22 + c + lenS σ f e), nI e, M)) n _ (fun kb e he => ?_) (fun kb => ?_) FU 0 (by omega) (by unfold FU; omega)
  · show g_X5_goes_26 _ kb 91 (nI f) x2 (nI (z + 22 + c + lenS σ f e)) (nI e) M = kb (nI (z + 22 + c + (lenS σ f e + (cenL σ e + (if f ≤ e then locL σ e else 0)))), nI (e + 1), M)
    unfold g_X5_goes_26 j_X5_goes_58
    rw [h2, if_neg (nI_ge he (by omega)), f_clY hY (hE e he) (by omega), cal_s, f_llY hY (hE e he) (by omega), cal_s, show (0 : Int32) = nI 0 from rfl, nI_add, nI_add, nI_add, nI_add, bndV_s, bndV_s, bndV_s, bndV_s, nI_1]
    by_cases q : f ≤ e
    · rw [if_pos (nI_le (a := f) (b := e) q (by omega)), if_pos q]
      rw [show z + 22 + c + lenS σ f e + (cenL σ e + locL σ e) = z + 22 + c + (lenS σ f e + (cenL σ e + locL σ e)) by omega]
    · rw [if_neg (nI_ge (show e < f by omega) (by omega)), if_neg q]
      rw [show z + 22 + c + lenS σ f e + (cenL σ e + 0) = z + 22 + c + (lenS σ f e + (cenL σ e + 0)) by omega]
  · show g_X5_goes_26 _ kb 91 (nI f) x2 (nI (z + 22 + c + lenS σ f n)) (nI n) M = _
    unfold g_X5_goes_26
    rw [h2, if_pos (nI_le (Nat.le_refl n) (by omega))]
theorem lenS_cat {σ : Nat → Nat → Int32} {f : Nat} {pl : Nat → Int32} : ∀ n, lenS σ f n = (cat (locB σ) f (n - f)).length + (cat (fun e => cenB σ e (pl e)) 0 n).length
  | 0 => by
    show 0 = (cat (locB σ) f (0 - f)).length + 0
    rw [Nat.zero_sub]
    rfl
  | n + 1 => by
    show lenS σ f n + (cenL σ n + (if f ≤ n then locL σ n else 0)) = _ + (cat (fun e => cenB σ e (pl e)) 0 n ++ cenB σ (0 + n) (pl (0 + n))).length
    rw [lenS_cat (pl := pl) n, List.length_append, cen_len, Nat.zero_add]
    by_cases q : f ≤ n
    · rw [if_pos q, show n + 1 - f = n - f + 1 by omega]
      show _ = (cat (locB σ) f (n - f) ++ locB σ (f + (n - f))).length + _
      rw [List.length_append, loc_len, show f + (n - f) = n by omega]
      omega
    · rw [if_neg q, show n + 1 - f = n - f by omega]
      omega
/-- an entry without DATA -/
def bare (σ : Nat → Nat → Int32) (n : Nat) : Prop := ∃ i, i < n ∧ ¬ σ 92 i = 2 ∧ σ 103 i = 0
theorem f_barX {M : Me} {σ : Nat → Nat → Int32} {n : Nat} (hn : n ≤ 12) (hX : ∀ i, i < n → EX M σ i) (h4 : M.1 0 4 = nI n) : (bare σ n ∧ f_X4_lacksData M 0 = some (1, M)) ∨ (¬ bare σ n ∧ f_X4_lacksData M 0 = some (0, M)) := by
  have st : ∀ kx kb j, j < n → g_X4_lacksData_2 kx kb 0 (nI j) M = if ¬ σ 92 j = 2 ∧ σ 103 j = 0 then some (1, M) else kb (nI (j + 1), M) := by
    intro kx kb j hj
    unfold g_X4_lacksData_2 f_X0_lacksData
    rw [h4, if_neg (nI_ge hj (by omega)), rf_0_0, chk_n _ (show j < ln 1 by rw [ln_1]; omega) (by decide), nI_clamp (by omega), rf_E, (hX j hj).k5, (hX j hj).k10, chZ_0, chZ_1]
    by_cases q : σ 92 j = 2
    · rw [if_pos q, cal_s, if_pos rfl, bndV_s, nI_1, if_neg (fun z => z.1 q)]
    · rw [if_neg q]
      by_cases q2 : σ 103 j = 0
      · rw [if_pos q2, cal_s, if_neg (by decide), chZ_1, if_pos ⟨q, q2⟩]
      · rw [if_neg q2, cal_s, if_pos rfl, bndV_s, nI_1, if_neg (fun z => q2 z.2)]
  unfold f_X4_lacksData l_X4_lacksData_2
  by_cases hb : bare σ n
  · refine Or.inl ⟨hb, ?_⟩
    refine lp_hit _ M n (fun j => ¬ σ 92 j = 2 ∧ σ 103 j = 0) _ (fun kb j hj hp => ?_) (fun kb j hj hp => ?_) FU 0 (by unfold FU; omega) ?_
    · exact (st _ kb j hj).trans (if_pos hp)
    · exact (st _ kb j hj).trans (if_neg hp)
    · obtain ⟨i, h1, h2⟩ := hb
      exact ⟨i, by omega, h1, h2⟩
  · refine Or.inr ⟨hb, ?_⟩
    refine lp_all _ M n (fun j => ¬ σ 92 j = 2 ∧ σ 103 j = 0) _ (fun kb j hj hp => ?_) (fun kb => ?_) hb FU 0 (by omega) (by unfold FU; omega)
    · exact (st _ kb j hj).trans (if_neg hp)
    · show g_X4_lacksData_2 _ kb 0 (nI n) M = _
      unfold g_X4_lacksData_2
      rw [h4, if_pos (nI_le (Nat.le_refl n) (by omega))]
      exact chZ_0 _
theorem f_barY {M : Me} {σ : Nat → Nat → Int32} {n : Nat} (hn : n ≤ 12) (hY : EY M σ) (h2 : M.1 91 2 = nI n) : (bare σ n → f_X5_isBare M 91 = some (1, M)) ∧ (¬ bare σ n → f_X5_isBare M 91 = some (0, M)) := by
  have st : ∀ kx kb j, j < n → g_X5_isBare_2 kx kb 91 (nI j) M = if ¬ σ 92 j = 2 ∧ σ 103 j = 0 then some (1, M) else kb (nI (j + 1), M) := by
    intro kx kb j hj
    unfold g_X5_isBare_2 j_X5_isBare_31
    rw [h2, if_neg (nI_ge hj (by omega)), rf_91_3, rf_91_14, chk_n _ (show j < ln 92 by rw [ln_92]; omega) (by decide), chk_n _ (show j < ln 103 by rw [ln_103]; omega) (by decide), hY.at (by omega) (by omega) (by omega), hY.at (by omega) (by omega) (by omega), bndV_s, nI_1, chZ_1]
    by_cases q : σ 92 j = 2
    · rw [if_pos q, if_neg (fun z => z.1 q)]
    · rw [if_neg q]
      by_cases q2 : σ 103 j = 0
      · rw [if_pos q2, if_pos ⟨q, q2⟩]
      · rw [if_neg q2, if_neg (fun z => q2 z.2)]
  unfold f_X5_isBare l_X5_isBare_2
  refine ⟨fun hb => ?_, fun hb => ?_⟩
  · refine lp_hit _ M n (fun j => ¬ σ 92 j = 2 ∧ σ 103 j = 0) _ (fun kb j hj hp => ?_) (fun kb j hj hp => ?_) FU 0 (by unfold FU; omega) ?_
    · exact (st _ kb j hj).trans (if_pos hp)
    · exact (st _ kb j hj).trans (if_neg hp)
    · obtain ⟨i, h1, h2⟩ := hb
      exact ⟨i, by omega, h1, h2⟩
  · refine lp_all _ M n (fun j => ¬ σ 92 j = 2 ∧ σ 103 j = 0) _ (fun kb j hj hp => ?_) (fun kb => ?_) hb FU 0 (by omega) (by unfold FU; omega)
    · exact (st _ kb j hj).trans (if_neg hp)
    · show g_X5_isBare_2 _ kb 91 (nI n) M = _
      unfold g_X5_isBare_2
      rw [h2, if_pos (nI_le (Nat.le_refl n) (by omega))]
      exact chZ_0 _
