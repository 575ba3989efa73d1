/-! BYTES PUT BEHIND: cells of row r from place z on, their number at (p, q) -/
def ap (r p q : Nat) (f : Nat → Int32) : Me → Nat → List Nat → Me
  | M, _, [] => M
  | M, z, b :: t => ap r p q f (sI (sI M r z (f b)) p q (nI (z + 1))) (z + 1) t
theorem ap_app {r p q : Nat} {f : Nat → Int32} (l1 l2 : List Nat) : ∀ (M : Me) (z : Nat), ap r p q f M z (l1 ++ l2) = ap r p q f (ap r p q f M z l1) (z + l1.length) l2 := by
  induction l1 with
  | nil => intro M z; rfl
  | cons b t ih =>
    intro M z
    show ap r p q f (sI (sI M r z (f b)) p q (nI (z + 1))) (z + 1) (t ++ l2) = _
    rw [ih]
    show _ = ap r p q f (ap r p q f (sI (sI M r z (f b)) p q (nI (z + 1))) (z + 1) t) (z + (t.length + 1)) l2
    rw [show z + 1 + t.length = z + (t.length + 1) by omega]
theorem ap_ne {r p q : Nat} {f : Nat → Int32} {x y : Nat} (l : List Nat) : ∀ (M : Me) (z : Nat), ¬ (x = p ∧ y = q) → ¬ (x = r ∧ z ≤ y ∧ y < z + l.length) → (ap r p q f M z l).1 x y = M.1 x y := by
  induction l with
  | nil => intro M z _ _; rfl
  | cons b t ih =>
    intro M z h1 h2
    have e : (b :: t).length = t.length + 1 := rfl
    show (ap r p q f (sI (sI M r z (f b)) p q (nI (z + 1))) (z + 1) t).1 x y = _
    rw [ih _ _ h1 (by omega), sI_ne h1, sI_ne (by omega)]
theorem ap_cnt {r p q : Nat} {f : Nat → Int32} (hrp : r ≠ p) (l : List Nat) : ∀ (M : Me) (z : Nat), M.1 p q = nI z → (ap r p q f M z l).1 p q = nI (z + l.length) := by
  induction l with
  | nil => intro M z h; exact h
  | cons b t ih =>
    intro M z h
    show (ap r p q f (sI (sI M r z (f b)) p q (nI (z + 1))) (z + 1) t).1 p q = nI (z + (t.length + 1))
    rw [ih _ _ sI_eq, show z + 1 + t.length = z + (t.length + 1) by omega]
theorem ap_at {r p q : Nat} {f : Nat → Int32} (hrp : r ≠ p) (l : List Nat) : ∀ (M : Me) (z j : Nat), j < l.length → (ap r p q f M z l).1 r (z + j) = f (l.getD j 0) := by
  induction l with
  | nil => intro M z j h; exact absurd h (Nat.not_lt_zero _)
  | cons b t ih =>
    intro M z j h
    have e : (b :: t).length = t.length + 1 := rfl
    show (ap r p q f (sI (sI M r z (f b)) p q (nI (z + 1))) (z + 1) t).1 r (z + j) = _
    cases j with
    | zero =>
      rw [ap_ne _ _ _ (by omega) (by omega), sI_ne (by omega)]
      show (sI M r z (f b)).1 r z = _
      rw [sI_eq]
      rfl
    | succ j =>
      rw [show z + (j + 1) = z + 1 + j by omega, ih _ _ _ (by omega)]
      rfl
theorem sI_comm {M : Me} {a k b j : Nat} {v w : Int32} (h : ¬ (a = b ∧ k = j)) : sI (sI M a k v) b j w = sI (sI M b j w) a k v := by
  refine Prod.ext ?_ rfl
  show up2 (up2 M.1 a k v) b j w = up2 (up2 M.1 b j w) a k v
  funext x y
  rw [up2_at, up2_at, up2_at, up2_at]
  by_cases q1 : x = b ∧ y = j
  · rw [if_pos q1, if_neg (by omega), if_pos q1]
  · rw [if_neg q1]
    by_cases q2 : x = a ∧ y = k
    · rw [if_pos q2, if_pos q2]
    · rw [if_neg q2, if_neg q2, if_neg q1]
theorem ap_sI {r p q : Nat} {f : Nat → Int32} {a k : Nat} {v : Int32} (l : List Nat) : ∀ (M : Me) (z : Nat), a ≠ r → a ≠ p → sI (ap r p q f M z l) a k v = ap r p q f (sI M a k v) z l := by
  induction l with
  | nil => intro M z _ _; rfl
  | cons b t ih =>
    intro M z h1 h2
    show sI (ap r p q f (sI (sI M r z (f b)) p q (nI (z + 1))) (z + 1) t) a k v = ap r p q f (sI (sI (sI M a k v) r z (f b)) p q (nI (z + 1))) (z + 1) t
    rw [ih _ _ h1 h2, sI_comm (by omega), sI_comm (M := M) (by omega)]
/-- F puts the bytes l behind, where C holds -/
def PU (r p q : Nat) (f : Nat → Int32) (C : Me → Prop) (F : Me → Option (Unit × Me)) (l : List Nat) : Prop := ∀ M z, C M → M.1 p q = nI z → z + l.length ≤ 2000 → F M = some ((), ap r p q f M z l)
def St (r p q : Nat) (f : Nat → Int32) (C : Me → Prop) : Prop := ∀ M z l, C M → C (ap r p q f M z l)
theorem PU.cps {r p q : Nat} {f : Nat → Int32} {C : Me → Prop} {F G : Me → Option (Unit × Me)} {l1 l2 : List Nat} (hrp : r ≠ p) (hs : St r p q f C) (h1 : ∀ M z, C M → M.1 p q = nI z → z + l1.length ≤ 2000 → F M = G (ap r p q f M z l1)) (h2 : PU r p q f C G l2) : PU r p q f C F (l1 ++ l2) := by
  intro M z hC hz hl
  rw [List.length_append] at hl
  rw [h1 M z hC hz (by omega), h2 _ _ (hs _ _ _ hC) (ap_cnt hrp _ _ _ hz) (by omega), ap_app]
theorem PU.seq {r p q : Nat} {f : Nat → Int32} {C : Me → Prop} {F G : Me → Option (Unit × Me)} {l1 l2 : List Nat} (hrp : r ≠ p) (hs : St r p q f C) (h1 : PU r p q f C F l1) (h2 : PU r p q f C G l2) : PU r p q f C (fun M => cal (F M) (fun _ M' => G M')) (l1 ++ l2) := PU.cps hrp hs (fun M z hC hz hl => by show cal (F M) _ = _; rw [h1 M z hC hz hl, cal_s]) h2
theorem PU.done {r p q : Nat} {f : Nat → Int32} {C : Me → Prop} : PU r p q f C (fun M => some ((), M)) [] := fun M z _ _ _ => rfl
theorem PU.congr {r p q : Nat} {f : Nat → Int32} {C : Me → Prop} {F G : Me → Option (Unit × Me)} {l : List Nat} (h : ∀ M, C M → F M = G M) (h2 : PU r p q f C G l) : PU r p q f C F l := fun M z hC hz hl => (h M hC).trans (h2 M z hC hz hl)
theorem PU.mono {r p q : Nat} {f : Nat → Int32} {C C' : Me → Prop} {F : Me → Option (Unit × Me)} {l : List Nat} (h2 : PU r p q f C' F l) (h : ∀ M, C M → C' M) : PU r p q f C F l := fun M z hC hz hl => h2 M z (h M hC) hz hl
theorem PU.last {r p q : Nat} {f : Nat → Int32} {C : Me → Prop} {F : Me → Option (Unit × Me)} {l : List Nat} (h : PU r p q f C F l) : PU r p q f C (fun M => cal (F M) (fun _ M' => some ((), M'))) l := fun M z hC hz hl => by show cal (F M) _ = _; rw [h M z hC hz hl, cal_s]
/-- g 0, g 1, .. -/
def ml (g : Nat → Nat) : Nat → List Nat
  | 0 => []
  | k + 1 => ml g k ++ [g k]
theorem ml_len (g : Nat → Nat) : ∀ n, (ml g n).length = n
  | 0 => rfl
  | n + 1 => by
    show (ml g n ++ [g n]).length = n + 1
    rw [List.length_append, ml_len g n]
    rfl
theorem ml_cong {g h : Nat → Nat} : ∀ n, (∀ k, k < n → g k = h k) → ml g n = ml h n
  | 0, _ => rfl
  | n + 1, e => by
    show ml g n ++ [g n] = ml h n ++ [h n]
    rw [ml_cong n (fun k hk => e k (by omega)), e n (by omega)]
theorem ml_lt {g : Nat → Nat} (h : ∀ k, g k < 256) : ∀ n, ∀ b ∈ ml g n, b < 256
  | 0, b, hb => by cases hb
  | n + 1, b, hb => by
    rcases List.mem_append.mp hb with q | q
    · exact ml_lt h n b q
    · rcases List.mem_cons.mp q with q | q
      · rw [q]; exact h n
      · cases q
def lb (v : Int64) (n : Nat) : List Nat := ml (byv v) n
theorem lb_len (v : Int64) (n : Nat) : (lb v n).length = n := ml_len _ n
theorem i8_of {x : Int32} {b : Nat} (h : x &&& 255 = nI b) : x.toInt8.toInt32 = bI b := by
  have key : (x &&& 255).toInt8 = x.toInt8 := by
    rw [Int32.toInt8_and]
    apply Int8.toBitVec_inj.mp
    rw [Int8.toBitVec_and]
    show x.toInt8.toBitVec &&& BitVec.allOnes 8 = _
    rw [BitVec.and_allOnes]
  rw [← key, h]
  rfl
theorem bI_nar (x : Int32) : x.toInt8.toInt32.toInt8.toInt32 = x.toInt8.toInt32 := pk_vb x
theorem f_cell {M : Me} {v : Int32} {z b : Nat} (hz : M.1 2 1 = nI z) (hl : z < 2000) (hv : v.toInt8.toInt32 = bI b) : f_X3_putCell M 2 v = some ((), ap 3 2 1 bI M z [b]) := by
  unfold f_X3_putCell
  rw [hz, if_neg (show ¬ (2000 : Int32) ≤ nI z from nI_ge (b := 2000) hl (by decide)), rf_2_0, chk_n _ (show z < ln 3 by rw [ln_3]; exact hl) (by decide), bnd_s, bnd_s, sI_ne (by omega), hz, nI_1, nI_clamp (by omega), vp_nar_byte, hv]
  rfl
theorem p_numX {C : Me → Prop} {v : Int64} {n : Nat} (hn : n ≤ 8) : PU 3 2 1 bI C (fun M => f_X3_putNumber M 2 v (nI n)) (lb v n) := by
  intro M z hC hz hl
  rw [lb_len] at hl
  show f_X3_putNumber M 2 v (nI n) = _
  unfold f_X3_putNumber l_X3_putNumber_3
  refine lp_for _ (fun j => ap 3 2 1 bI M z (lb v j)) n _ (fun kb j hj => ?_) (fun kb => ?_) FU 0 (by omega) (by unfold FU; omega)
  · show g_X3_putNumber_3 _ kb 2 v (nI n) (nI j) _ = kb (nI (j + 1), ap 3 2 1 bI M z (lb v j ++ [byv v j]))
    unfold g_X3_putNumber_3
    have h1 := ap_cnt (r := 3) (p := 2) (q := 1) (f := bI) (by decide) (lb v j) M z hz
    rw [lb_len] at h1
    rw [if_neg (nI_ge hj (by omega)), mu_8, f_cell (b := byv v j) h1 (by omega) (by rw [bI_nar, i8_of (octX v (by omega))]), cal_s, bndV_s, nI_1, ap_app, lb_len]
  · show g_X3_putNumber_3 _ kb 2 v (nI n) (nI n) _ = _
    unfold g_X3_putNumber_3
    rw [if_pos (nI_le (Nat.le_refl n) (by omega))]
theorem p_celX {C : Me → Prop} {a1 x2 n : Nat} {g : Nat → Nat} (hs : St 3 2 1 bI C) (hC : ∀ M, C M → ∀ k, k < n → M.1 a1 (x2 + k) &&& 255 = nI (g k)) (hl1 : x2 + n ≤ ln a1) (hl2 : ln a1 < 1000) : PU 3 2 1 bI C (fun M => f_X3_putCells M 2 a1 (nI x2) (nI n)) (ml g n) := by
  intro M z hM hz hl
  rw [ml_len] at hl
  show f_X3_putCells M 2 a1 (nI x2) (nI n) = _
  unfold f_X3_putCells l_X3_putCells_3
  refine lp_for _ (fun j => ap 3 2 1 bI M z (ml g j)) n _ (fun kb j hj => ?_) (fun kb => ?_) FU 0 (by omega) (by unfold FU; omega)
  · show g_X3_putCells_3 _ kb 2 a1 (nI x2) (nI n) (nI j) _ = kb (nI (j + 1), ap 3 2 1 bI M z (ml g j ++ [g j]))
    unfold g_X3_putCells_3
    have h1 := ap_cnt (r := 3) (p := 2) (q := 1) (f := bI) (by decide) (ml g j) M z hz
    rw [ml_len] at h1
    have h2 := hC _ (hs _ z (ml g j) hM) j hj
    rw [if_neg (nI_ge hj (by omega)), nI_add, if_neg (nI_ge (show x2 + j < ln a1 by omega) (by omega)), chk_n _ (show x2 + j < ln a1 by omega) (by omega), nI_clamp (by omega), f_cell (b := g j) h1 (by omega) (i8_of h2), cal_s, bndV_s, nI_1, ap_app, ml_len]
  · show g_X3_putCells_3 _ kb 2 a1 (nI x2) (nI n) (nI n) _ = _
    unfold g_X3_putCells_3
    rw [if_pos (nI_le (Nat.le_refl n) (by omega))]
theorem p_numY {C : Me → Prop} {v : Int64} {n : Nat} (hn : n ≤ 8) : PU 111 91 25 nI C (fun M => f_X5_put M 91 v (nI n)) (lb v n) := by
  intro M z hC hz hl
  rw [lb_len] at hl
  show f_X5_put M 91 v (nI n) = _
  unfold f_X5_put l_X5_put_3
  refine lp_for _ (fun j => ap 111 91 25 nI M z (lb v j)) n _ (fun kb j hj => ?_) (fun kb => ?_) FU 0 (by omega) (by unfold FU; omega)
  · show g_X5_put_3 _ kb 91 v (nI n) (nI j) _ = kb (nI (j + 1), ap 111 91 25 nI M z (lb v j ++ [byv v j]))
    unfold g_X5_put_3 j_X5_put_40
    have h1 := ap_cnt (r := 111) (p := 91) (q := 25) (f := nI) (by decide) (lb v j) M z hz
    rw [lb_len] at h1
    rw [if_neg (nI_ge hj (by omega)), mu_8, octY v (by omega), h1, if_neg (show ¬ (2000 : Int32) ≤ nI (z + j) from nI_ge (b := 2000) (by omega) (by decide)), rf_91_23, chk_n _ (show z + j < ln 111 by rw [ln_111]; omega) (by decide), bnd_s, bnd_s, bndV_s, sI_ne (by omega), h1, nI_1, nI_1, nI_clamp (by omega), ap_app, lb_len]
    rfl
  · show g_X5_put_3 _ kb 91 v (nI n) (nI n) _ = _
    unfold g_X5_put_3
    rw [if_pos (nI_le (Nat.le_refl n) (by omega))]
theorem byv_nI {b : Nat} (h : b < 256) : byv (nI b).toInt64 0 = b := by
  unfold byv
  rw [nI_l (by omega), wb_tn (by omega)]
  omega
theorem p_oneY {C : Me → Prop} {b : Nat} (h : b < 256) : PU 111 91 25 nI C (fun M => f_X5_put M 91 (nI b).toInt64 1) [b] := by
  have h1 := p_numY (C := C) (v := (nI b).toInt64) (n := 1) (by omega)
  have e : lb (nI b).toInt64 1 = [b] := by
    show [] ++ [byv (nI b).toInt64 0] = [b]
    rw [byv_nI h]
    rfl
  rw [e] at h1
  exact h1
