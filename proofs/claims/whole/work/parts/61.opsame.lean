theorem b8_inj {x y : Int32} (hx : x = x.toInt8.toInt32) (hy : y = y.toInt8.toInt32) : x = y ↔ x &&& 255 = y &&& 255 := by
  refine ⟨fun q => by rw [q], fun q => ?_⟩
  have key : ∀ v : Int32, (v &&& 255).toInt8 = v.toInt8 := by
    intro v
    rw [Int32.toInt8_and]
    apply Int8.toBitVec_inj.mp
    rw [Int8.toBitVec_and]
    show v.toInt8.toBitVec &&& BitVec.allOnes 8 = _
    rw [BitVec.and_allOnes]
  rw [hx, hy, ← key x, ← key y, q]
/-- two entries have one name -/
def smn (σ : Nat → Nat → Int32) (e nl j : Nat) : Prop := σ 95 j = nI nl ∧ ∀ k, k < nl → σ 94 (16 * j + k) = σ 94 (16 * e + k)
theorem f_nameX1 {M : Me} {σ : Nat → Nat → Int32} {e nl j : Nat} (he : EX M σ e) (hj : EX M σ j) (hxb : XB M) (hnl : nl ≤ 16) (hle : σ 95 e = nI nl) (he12 : e < 12) (hj12 : j < 12) (hs : smn σ e nl j) : f_X0_hasNameOf M (19 + 6 * j) (19 + 6 * e) = some (1, M) := by
  unfold f_X0_hasNameOf
  have hl1 := ln_e0 he12
  have hl2 := ln_e0 hj12
  rw [hj.k7, he.k7, hle, hs.1, if_pos rfl]
  unfold l_X0_hasNameOf_15
  refine lp_run _ (fun k => (nI k, M)) nl _ (fun kb k hk => ?_) (fun kb => ?_) FU 0 (by omega) (by unfold FU; omega)
  · show g_X0_hasNameOf_15 _ kb (19 + 6 * j) (19 + 6 * e) (nI k) M = _
    unfold g_X0_hasNameOf_15
    rw [hj.k7, hs.1, if_neg (nI_ge hk (by omega)), if_neg (show ¬ (16 : Int32) ≤ nI k from nI_ge (b := 16) (by omega) (by decide)), rf_e0 hj12, rf_e0 he12, chk_n _ (by omega) (by omega), chk_n _ (by omega) (by omega), nI_clamp (by omega), if_pos, bndV_s, nI_1]
    rw [b8_inj (hxb j k hj12 (by omega)) (hxb e k he12 (by omega)), hj.lt (by omega), he.lt (by omega)]
    exact hs.2 k hk
  · show g_X0_hasNameOf_15 _ kb (19 + 6 * j) (19 + 6 * e) (nI nl) M = _
    unfold g_X0_hasNameOf_15
    rw [hj.k7, hs.1, if_pos (nI_le (Nat.le_refl nl) (by omega))]
    exact chZ_1 _
theorem f_nameX0 {M : Me} {σ : Nat → Nat → Int32} {e nl j : Nat} (he : EX M σ e) (hj : EX M σ j) (hxb : XB M) (hnl : nl ≤ 16) (hle : σ 95 e = nI nl) (he12 : e < 12) (hj12 : j < 12) (hs : ¬ smn σ e nl j) : f_X0_hasNameOf M (19 + 6 * j) (19 + 6 * e) = some (0, M) := by
  unfold f_X0_hasNameOf
  have hl1 := ln_e0 he12
  have hl2 := ln_e0 hj12
  rw [hj.k7, he.k7, hle]
  by_cases hq : σ 95 j = nI nl
  · rw [if_pos hq]
    have hex : ∃ k, k < nl ∧ ¬ σ 94 (16 * j + k) = σ 94 (16 * e + k) := by
      apply Classical.byContradiction
      intro hno
      exact hs ⟨hq, fun k hk => Classical.byContradiction (fun z => hno ⟨k, hk, z⟩)⟩
    obtain ⟨m, ⟨hm1, hm2⟩, hm3⟩ := pk_least _ hex
    unfold l_X0_hasNameOf_15
    refine lp_run _ (fun k => (nI k, M)) m _ (fun kb k hk => ?_) (fun kb => ?_) FU 0 (by omega) (by unfold FU; omega)
    · show g_X0_hasNameOf_15 _ kb (19 + 6 * j) (19 + 6 * e) (nI k) M = _
      unfold g_X0_hasNameOf_15
      rw [hj.k7, hq, if_neg (nI_ge (show k < nl by omega) (by omega)), if_neg (show ¬ (16 : Int32) ≤ nI k from nI_ge (b := 16) (by omega) (by decide)), rf_e0 hj12, rf_e0 he12, chk_n _ (by omega) (by omega), chk_n _ (by omega) (by omega), nI_clamp (by omega), if_pos, bndV_s, nI_1]
      rw [b8_inj (hxb j k hj12 (by omega)) (hxb e k he12 (by omega)), hj.lt (by omega), he.lt (by omega)]
      exact Classical.byContradiction (fun z => hm3 k hk ⟨by omega, z⟩)
    · show g_X0_hasNameOf_15 _ kb (19 + 6 * j) (19 + 6 * e) (nI m) M = _
      unfold g_X0_hasNameOf_15
      rw [hj.k7, hq, if_neg (nI_ge hm1 (by omega)), if_neg (show ¬ (16 : Int32) ≤ nI m from nI_ge (b := 16) (by omega) (by decide)), rf_e0 hj12, rf_e0 he12, chk_n _ (by omega) (by omega), chk_n _ (by omega) (by omega), nI_clamp (by omega), if_neg, chZ_0]
      rw [b8_inj (hxb j m hj12 (by omega)) (hxb e m he12 (by omega)), hj.lt (by omega), he.lt (by omega)]
      exact hm2
  · rw [if_neg hq, chZ_0]
/-- the reference's inner loop -/
theorem l_nameY1 {M : Me} {σ : Nat → Nat → Int32} {e nl j : Nat} {kx : Int32 → Int32 → Me → Option (Int32 × Me)} {K : Option (Int32 × Me)} (hy : EY M σ) (hnl : nl ≤ 16) (hle : σ 95 e = nI nl) (he12 : e < 12) (hj12 : j < 12) (hs : smn σ e nl j) (hk : ∀ v, kx 1 v M = K) : l_X5_same_48 kx 91 (nI e) (nI j) 1 0 M = K := by
  unfold l_X5_same_48
  refine lp_run _ (fun k => (1, nI k, M)) nl _ (fun kb k hk => ?_) (fun kb => ?_) FU 0 (by omega) (by unfold FU; omega)
  · show g_X5_same_48 _ kb 91 (nI e) (nI j) 1 (nI k) M = _
    unfold g_X5_same_48 j_X5_same_95
    rw [rf_91_6, rf_91_5, chk_n _ (show e < ln 95 by rw [ln_95]; omega) (by decide), nI_clamp (show e < 2 ^ 31 by omega), hy 95 e (by omega) (by omega), hle, if_neg (nI_ge hk (by omega)), if_neg (by decide), mu_16, mu_16, nI_add, nI_add, chk_n _ (show 16 * j + k < ln 94 by rw [ln_94]; omega) (by decide), chk_n _ (show 16 * e + k < ln 94 by rw [ln_94]; omega) (by decide), nI_clamp (by omega), nI_clamp (by omega), hy 94 _ (by omega) (by omega), hy 94 _ (by omega) (by omega), if_pos (hs.2 k hk), bndV_s, nI_1]
  · show g_X5_same_48 _ kb 91 (nI e) (nI j) 1 (nI nl) M = _
    unfold g_X5_same_48
    rw [rf_91_6, chk_n _ (show e < ln 95 by rw [ln_95]; omega) (by decide), nI_clamp (show e < 2 ^ 31 by omega), hy 95 e (by omega) (by omega), hle, if_pos (nI_le (Nat.le_refl nl) (by omega)), hk]
theorem l_nameY0 {M : Me} {σ : Nat → Nat → Int32} {e nl j : Nat} {kx : Int32 → Int32 → Me → Option (Int32 × Me)} {K : Option (Int32 × Me)} (hy : EY M σ) (hnl : nl ≤ 16) (hle : σ 95 e = nI nl) (he12 : e < 12) (hj12 : j < 12) (hl : σ 95 j = nI nl) (hs : ¬ smn σ e nl j) (hk : ∀ v, kx 0 v M = K) : l_X5_same_48 kx 91 (nI e) (nI j) 1 0 M = K := by
  have hex : ∃ k, k < nl ∧ ¬ σ 94 (16 * j + k) = σ 94 (16 * e + k) := by
    apply Classical.byContradiction
    intro hno
    exact hs ⟨hl, fun k hk => Classical.byContradiction (fun z => hno ⟨k, hk, z⟩)⟩
  obtain ⟨m, ⟨hm1, hm2⟩, hm3⟩ := pk_least _ hex
  unfold l_X5_same_48
  refine lp_run _ (fun k => (if k ≤ m then 1 else 0, nI k, M)) (m + 1) _ (fun kb k hk => ?_) (fun kb => ?_) FU 0 (by omega) (by unfold FU; omega)
  · show g_X5_same_48 _ kb 91 (nI e) (nI j) (if k ≤ m then 1 else 0) (nI k) M = kb (if k + 1 ≤ m then 1 else 0, nI (k + 1), M)
    unfold g_X5_same_48 j_X5_same_95
    rw [if_pos (show k ≤ m by omega), rf_91_6, rf_91_5, chk_n _ (show e < ln 95 by rw [ln_95]; omega) (by decide), nI_clamp (show e < 2 ^ 31 by omega), hy 95 e (by omega) (by omega), hle, if_neg (nI_ge (show k < nl by omega) (by omega)), if_neg (by decide), mu_16, mu_16, nI_add, nI_add, chk_n _ (show 16 * j + k < ln 94 by rw [ln_94]; omega) (by decide), chk_n _ (show 16 * e + k < ln 94 by rw [ln_94]; omega) (by decide), nI_clamp (by omega), nI_clamp (by omega), hy 94 _ (by omega) (by omega), hy 94 _ (by omega) (by omega), nI_1]
    by_cases q : k = m
    · subst q
      rw [if_neg hm2, bndV_s, if_neg (by omega)]
    · rw [if_pos (Classical.byContradiction (fun z => hm3 k (by omega) ⟨by omega, z⟩)), bndV_s, if_pos (by omega)]
  · show g_X5_same_48 _ kb 91 (nI e) (nI j) (if m + 1 ≤ m then 1 else 0) (nI (m + 1)) M = _
    unfold g_X5_same_48
    rw [if_neg (show ¬ m + 1 ≤ m by omega), rf_91_6, chk_n _ (show e < ln 95 by rw [ln_95]; omega) (by decide), nI_clamp (show e < 2 ^ 31 by omega), hy 95 e (by omega) (by omega), hle, if_pos (show (0 : Int32) = 0 from rfl), hk]
    by_cases q : nI nl ≤ nI (m + 1)
    · rw [if_pos q]
    · rw [if_neg q]
theorem l_nameYd {M : Me} {σ : Nat → Nat → Int32} {e nl j : Nat} {kx : Int32 → Int32 → Me → Option (Int32 × Me)} {K : Option (Int32 × Me)} (hy : EY M σ) (hnl : nl ≤ 16) (hle : σ 95 e = nI nl) (he12 : e < 12) (hk : ∀ v, kx 0 v M = K) : l_X5_same_48 kx 91 (nI e) (nI j) 0 0 M = K := by
  unfold l_X5_same_48
  refine lp_run _ (fun k => (0, nI k, M)) 0 _ (fun kb k hk => by omega) (fun kb => ?_) FU 0 (by omega) (by unfold FU; omega)
  show g_X5_same_48 _ kb 91 (nI e) (nI j) 0 (nI 0) M = _
  unfold g_X5_same_48
  rw [rf_91_6, chk_n _ (show e < ln 95 by rw [ln_95]; omega) (by decide), nI_clamp (show e < 2 ^ 31 by omega), hy 95 e (by omega) (by omega), hle, if_pos (show (0 : Int32) = 0 from rfl), hk]
  by_cases q : nI nl ≤ nI 0
  · rw [if_pos q]
  · rw [if_neg q]
theorem op_same {M : Me} (h : INV M) (x : Int32) : OP (fun M => f_X4_same M 0 x) (fun M => f_X5_same M 91 x) M := by
  obtain ⟨n, z, c, hi⟩ := h
  have hn := hi.1.1
  have hy0 := yn0 hi
  by_cases he : ∃ i, i < n ∧ x = nI i
  · obtain ⟨e, hin, q⟩ := he
    subst q
    have hu := xk1 hi hin
    obtain ⟨nl, dl, pc, g1, g2, g3, g4, g5, _⟩ := hi.2.2.1 e hin
    have hye : EY (sI M 91 0 0) M.1 := fun a k h1 h2 => by rw [sI_ne (by omega)]
    have hex : ∃ j, smn M.1 e nl j := ⟨e, g5, fun k hk => rfl⟩
    obtain ⟨m, hm, hm3⟩ := pk_least _ hex
    have hme : m ≤ e := by
      rcases Nat.lt_or_ge e m with q | q
      · exact absurd ⟨g5, fun k hk => rfl⟩ (hm3 e q)
      · exact q
    refine OP.read (r := nI m) hi ?_ ?_
    · show f_X4_same M 0 (nI e) = _
      unfold f_X4_same
      rw [hu, cal_s, if_pos rfl]
      unfold l_X4_same_13
      refine lp_run _ (fun k => (nI k, M)) m _ (fun kb k hk => ?_) (fun kb => ?_) FU 0 (by omega) (by unfold FU; omega)
      · show g_X4_same_13 _ kb 0 (nI e) (nI k) M = _
        unfold g_X4_same_13
        rw [if_neg (nI_ge (show k < e by omega) (by omega)), rf_0_0, chk_n _ (show k < ln 1 by rw [ln_1]; omega) (by decide), chk_n _ (show e < ln 1 by rw [ln_1]; omega) (by decide), nI_clamp (by omega), nI_clamp (by omega), rf_E, rf_E, f_nameX0 (hi.ex hin) (hi.ex (show k < n by omega)) hi.xb g2 g5 (by omega) (by omega) (hm3 k hk), cal_s, if_pos rfl, bndV_s, nI_1]
      · show g_X4_same_13 _ kb 0 (nI e) (nI m) M = _
        unfold g_X4_same_13
        by_cases q : m = e
        · rw [if_pos (nI_le (show e ≤ m by omega) (by omega))]
        · rw [if_neg (nI_ge (show m < e by omega) (by omega)), rf_0_0, chk_n _ (show m < ln 1 by rw [ln_1]; omega) (by decide), chk_n _ (show e < ln 1 by rw [ln_1]; omega) (by decide), nI_clamp (by omega), nI_clamp (by omega), rf_E, rf_E, f_nameX1 (hi.ex hin) (hi.ex (show m < n by omega)) hi.xb g2 g5 (by omega) (by omega) hm, cal_s, if_neg (by decide)]
    · show f_X5_same M 91 (nI e) = _
      unfold f_X5_same
      rw [bnd_s, yk1 (M := sI M 91 0 0) hn hy0 hin, cal_s, if_neg (by decide)]
      unfold l_X5_same_20
      refine lp_run _ (fun k => (if k ≤ m then nI k else nI m, if k ≤ m then 0 else 1, sI M 91 0 0)) (m + 1) _ (fun kb k hk => ?_) (fun kb => ?_) FU 0 (by omega) (by unfold FU; omega)
      · show g_X5_same_20 _ kb 91 (nI e) (if k ≤ m then nI k else nI m) (if k ≤ m then 0 else 1) (sI M 91 0 0) = kb (if k + 1 ≤ m then nI (k + 1) else nI m, if k + 1 ≤ m then 0 else 1, sI M 91 0 0)
        unfold g_X5_same_20 j_X5_same_44
        rw [if_pos (show k ≤ m by omega), if_pos (show k ≤ m by omega), if_pos rfl, rf_91_6, chk_n _ (show k < ln 95 by rw [ln_95]; omega) (by decide), chk_n _ (show e < ln 95 by rw [ln_95]; omega) (by decide), nI_clamp (show e < 2 ^ 31 by omega), nI_clamp (show k < 2 ^ 31 by omega), hye 95 e (by omega) (by omega), hye 95 k (by omega) (by omega), g5]
        by_cases q : k = m
        · subst q
          rw [if_pos hm.1, if_neg (show ¬ k + 1 ≤ k by omega), if_neg (show ¬ k + 1 ≤ k by omega)]
          refine l_nameY1 hye g2 g5 (by omega) (by omega) hm (fun v => ?_)
          show j_X5_same_102 _ kb 91 (nI e) (nI k) 1 (sI M 91 0 0) = _
          unfold j_X5_same_102 j_X5_same_112
          rw [if_neg (by decide), bndV_s, show nI k + (0 : Int32) = nI k from by rw [show (0 : Int32) = nI 0 from rfl, nI_add]; rfl]
        · rw [if_pos (show k + 1 ≤ m by omega), if_pos (show k + 1 ≤ m by omega)]
          have hkx : ∀ (kx : Int32 → Int32 → Me → Option (Int32 × Me)) (v : Int32), (fun v10 v11 M12 => j_X5_same_102 kx kb 91 (nI e) (nI k) v10 M12) 0 v (sI M 91 0 0) = kb (nI (k + 1), 0, sI M 91 0 0) := by
            intro kx v
            show j_X5_same_102 _ kb 91 (nI e) (nI k) 0 (sI M 91 0 0) = _
            unfold j_X5_same_102 j_X5_same_112
            rw [if_pos rfl, bndV_s, nI_1]
          by_cases q2 : M.1 95 k = nI nl
          · rw [if_pos q2]
            exact l_nameY0 hye g2 g5 (by omega) (by omega) q2 (hm3 k (by omega)) (hkx _)
          · rw [if_neg q2]
            exact l_nameYd hye g2 g5 (by omega) (hkx _)
      · show g_X5_same_20 _ kb 91 (nI e) (if m + 1 ≤ m then nI (m + 1) else nI m) (if m + 1 ≤ m then 0 else 1) (sI M 91 0 0) = _
        unfold g_X5_same_20
        rw [if_neg (show ¬ m + 1 ≤ m by omega), if_neg (show ¬ m + 1 ≤ m by omega), if_neg (by decide)]
  · refine OP.read (r := -2) hi ?_ ?_
    · show f_X4_same M 0 x = _
      unfold f_X4_same
      rw [xk0 hi he, cal_s, if_neg (by decide)]
    · show f_X5_same M 91 x = _
      unfold f_X5_same
      rw [bnd_s, yk0 (M := sI M 91 0 0) hn hy0 he, cal_s, if_pos rfl]
