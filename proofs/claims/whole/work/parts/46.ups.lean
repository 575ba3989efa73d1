/-! lists of writes, in the reference's layout; the latest stands first -/
def ups (l : List (Nat × Nat × Int32)) (σ : Nat → Nat → Int32) (a k : Nat) : Int32 := match l with
  | [] => σ a k
  | w :: t => if a = w.1 ∧ k = w.2.1 then w.2.2 else ups t σ a k
/-- what can be seen of the reference's rows, and its own zeros behind THE BYTES -/
def yr (a k : Nat) : Prop := 91 ≤ a ∧ a ≤ 111 ∧ ¬ (a = 91 ∧ ¬ (k = 1 ∨ k = 2 ∨ k = 22 ∨ k = 24 ∨ k = 26))
theorem vd_yr {a k : Nat} (h : vd a k) : yr a k := by
  rcases h with ⟨g, g2⟩ | ⟨g, g2, _⟩
  · exact ⟨by omega, by omega, by omega⟩
  · exact ⟨by omega, by omega, by omega⟩
/-- ZipForms has done the writes l, and nothing that is the reference's -/
def WX (l : List (Nat × Nat × Int32)) (M M1 : Me) : Prop := (∀ a k, vd a k → AX M1 a k = ups l (AX M) a k) ∧ ∀ a k, 91 ≤ a → M1.1 a k = M.1 a k
def WY (l : List (Nat × Nat × Int32)) (M1 M2 : Me) : Prop := (∀ a k, a < 91 → M2.1 a k = M1.1 a k) ∧ ∀ a k, yr a k → M2.1 a k = ups l M1.1 a k
theorem WX.nil {M : Me} : WX [] M M := ⟨fun _ _ _ => rfl, fun _ _ _ => rfl⟩
theorem WY.nil {M : Me} : WY [] M M := ⟨fun _ _ _ => rfl, fun _ _ _ => rfl⟩
theorem WX.cons {l : List (Nat × Nat × Int32)} {M M1 : Me} (h : WX l M M1) {a0 k0 : Nat} (h0 : vd a0 k0) {v w : Int32} (hw : msk a0 v = w) : WX ((a0, k0, w) :: l) M (sI M1 (loc a0 k0).1 (loc a0 k0).2 v) := by
  refine ⟨fun a k hv => ?_, fun a k ha => ?_⟩
  · rw [AX_set h0 hv]
    show _ = if a = a0 ∧ k = k0 then w else ups l (AX M) a k
    by_cases q : a = a0 ∧ k = k0
    · rw [if_pos q, if_pos q, q.1, hw]
    · rw [if_neg q, if_neg q, h.1 a k hv]
  · have := loc_lt h0
    rw [sI_ne (by omega)]
    exact h.2 a k ha
/-- a write of ZipForms to its own scratch -/
theorem WX.scr {l : List (Nat × Nat × Int32)} {M M1 : Me} (h : WX l M M1) {x y : Nat} {v : Int32} (hx : x < 91) (h0 : ∀ a k, vd a k → ¬ ((loc a k).1 = x ∧ (loc a k).2 = y)) : WX l M (sI M1 x y v) := ⟨fun a k hv => (AX_oth h0 hv).trans (h.1 a k hv), fun a k ha => by rw [sI_ne (by omega)]; exact h.2 a k ha⟩
theorem WY.cons {l : List (Nat × Nat × Int32)} {M1 M2 : Me} (h : WY l M1 M2) {a0 k0 : Nat} {w : Int32} (h0 : 91 ≤ a0) : WY ((a0, k0, w) :: l) M1 (sI M2 a0 k0 w) := by
  refine ⟨fun a k ha => ?_, fun a k hr => ?_⟩
  · rw [sI_ne (by omega)]
    exact h.1 a k ha
  · show _ = if a = a0 ∧ k = k0 then w else ups l M1.1 a k
    rw [sI_1, up2_at]
    by_cases q : a = a0 ∧ k = k0
    · rw [if_pos q, if_pos q]
    · rw [if_neg q, if_neg q, h.2 a k hr]
theorem WY.scr {l : List (Nat × Nat × Int32)} {M1 M2 : Me} (h : WY l M1 M2) {x y : Nat} {v : Int32} (hx : (x = 91 ∧ ¬ (y = 1 ∨ y = 2 ∨ y = 22 ∨ y = 24 ∨ y = 26)) ∨ 112 ≤ x) : WY l M1 (sI M2 x y v) := by
  refine ⟨fun a k ha => ?_, fun a k hr => ?_⟩
  · rw [sI_ne (by omega)]
    exact h.1 a k ha
  · obtain ⟨g1, g2, g3⟩ := hr
    rw [sI_ne (by omega)]
    exact h.2 a k ⟨g1, g2, g3⟩
theorem ups_app (l1 l2 : List (Nat × Nat × Int32)) (σ : Nat → Nat → Int32) (a k : Nat) : ups (l1 ++ l2) σ a k = ups l1 (ups l2 σ) a k := by
  induction l1 with
  | nil => rfl
  | cons w t ih =>
    show (if a = w.1 ∧ k = w.2.1 then w.2.2 else ups (t ++ l2) σ a k) = if a = w.1 ∧ k = w.2.1 then w.2.2 else ups t (ups l2 σ) a k
    rw [ih]
theorem ups_no {l : List (Nat × Nat × Int32)} {σ : Nat → Nat → Int32} {a k : Nat} (h : ∀ w ∈ l, ¬ (a = w.1 ∧ k = w.2.1)) : ups l σ a k = σ a k := by
  induction l with
  | nil => rfl
  | cons w t ih =>
    show (if _ then _ else _) = _
    rw [if_neg (h w List.mem_cons_self)]
    exact ih (fun w hw => h w (List.mem_cons_of_mem _ hw))
theorem WX.trans {l1 l2 : List (Nat × Nat × Int32)} {M M1 M2 : Me} (h1 : WX l1 M M1) (h2 : WX l2 M1 M2) : WX (l2 ++ l1) M M2 := by
  refine ⟨fun a k hv => ?_, fun a k ha => (h2.2 a k ha).trans (h1.2 a k ha)⟩
  rw [h2.1 a k hv, ups_app]
  have key : ∀ l : List (Nat × Nat × Int32), ups l (AX M1) a k = ups l (ups l1 (AX M)) a k := by
    intro l
    induction l with
    | nil => exact h1.1 a k hv
    | cons w t ih =>
      show (if _ then _ else _) = if _ then _ else _
      rw [ih]
  exact key l2
theorem WY.trans {l1 l2 : List (Nat × Nat × Int32)} {M M1 M2 : Me} (h1 : WY l1 M M1) (h2 : WY l2 M1 M2) : WY (l2 ++ l1) M M2 := by
  refine ⟨fun a k ha => (h2.1 a k ha).trans (h1.1 a k ha), fun a k hr => ?_⟩
  rw [h2.2 a k hr, ups_app]
  have key : ∀ l : List (Nat × Nat × Int32), ups l M1.1 a k = ups l (ups l1 M.1) a k := by
    intro l
    induction l with
    | nil => exact h1.2 a k hr
    | cons w t ih =>
      show (if _ then _ else _) = if _ then _ else _
      rw [ih]
  exact key l2
theorem RE.ups {σx σ : Nat → Nat → Int32} {n : Nat} {l : List (Nat × Nat × Int32)} (h : RE σx σ n) (hl : ∀ w ∈ l, w.1 = 92 → n ≤ w.2.1) : RE (ups l σx) (ups l σ) n := by
  induction l with
  | nil => exact h
  | cons w t ih => exact (ih (fun w hw => hl w (List.mem_cons_of_mem _ hw))).up (fun a k hv => rfl) (fun a k hv => rfl) (hl w List.mem_cons_self)
/-- what both have done: the relation goes on -/
theorem WXY.re {l : List (Nat × Nat × Int32)} {M M1 M2 : Me} {n : Nat} (hx : WX l M M1) (hy : WY l M1 M2) (h : RE (AX M) M.1 n) (hl : ∀ w ∈ l, w.1 = 92 → n ≤ w.2.1) : RE (AX M2) M2.1 n := by
  have h1 := RE.ups (l := l) h hl
  refine RE.same h1 (fun a k hv => ?_) (fun a k hv => ?_)
  · rw [← hx.1 a k hv]
    have := loc_lt hv
    unfold AX
    rw [hy.1 _ _ this]
  · rw [hy.2 a k (vd_yr hv)]
    have key : ∀ l' : List (Nat × Nat × Int32), ups l' M1.1 a k = ups l' M.1 a k := by
      intro l'
      induction l' with
      | nil => exact hx.2 a k (vd_ge hv)
      | cons w t ih =>
        show (if _ then _ else _) = if _ then _ else _
        rw [ih]
    exact key l
theorem WXY.y {l : List (Nat × Nat × Int32)} {M M1 M2 : Me} (hx : WX l M M1) (hy : WY l M1 M2) {a k : Nat} (hr : yr a k) : M2.1 a k = ups l M.1 a k := by
  rw [hy.2 a k hr]
  have key : ∀ l' : List (Nat × Nat × Int32), ups l' M1.1 a k = ups l' M.1 a k := by
    intro l'
    induction l' with
    | nil => exact hx.2 a k hr.1
    | cons w t ih =>
      show (if _ then _ else _) = if _ then _ else _
      rw [ih]
  exact key l
/-- a place of a row of bytes may be written with a byte -/
def byr (a : Nat) : Prop := a = 94 ∨ a = 102 ∨ a = 105 ∨ a = 110 ∨ a = 111
theorem ups_isB {l : List (Nat × Nat × Int32)} {σ : Nat → Nat → Int32} {a k : Nat} (h : isB (σ a k)) (hl : ∀ w ∈ l, w.1 = a → isB w.2.2) : isB (ups l σ a k) := by
  induction l with
  | nil => exact h
  | cons w t ih =>
    show isB (if _ then _ else _)
    by_cases q : a = w.1 ∧ k = w.2.1
    · rw [if_pos q]
      exact hl w List.mem_cons_self q.1.symm
    · rw [if_neg q]
      exact ih (fun w hw => hl w (List.mem_cons_of_mem _ hw))
theorem Yb.ups {l : List (Nat × Nat × Int32)} {σ : Nat → Nat → Int32} (h : Yb σ) (hl : ∀ w ∈ l, byr w.1 → isB w.2.2) (h111 : ∀ w ∈ l, w.1 = 111 → w.2.1 < 2000) : Yb (ups l σ) := by
  obtain ⟨g1, g2, g3, g4, g5, g6⟩ := h
  refine ⟨fun k hk => ups_isB (g1 k hk) (fun w hw e => hl w hw (by unfold byr; omega)), fun k hk => ups_isB (g2 k hk) (fun w hw e => hl w hw (by unfold byr; omega)), fun k hk => ups_isB (g3 k hk) (fun w hw e => hl w hw (by unfold byr; omega)), fun k hk => ups_isB (g4 k hk) (fun w hw e => hl w hw (by unfold byr; omega)), fun k hk => ups_isB (g5 k hk) (fun w hw e => hl w hw (by unfold byr; omega)), fun k hk hk2 => ?_⟩
  rw [ups_no (fun w hw e => by have := h111 w hw e.1.symm; omega)]
  exact g6 k hk hk2
/-- the invariant behind a list of writes that leaves the heads alone; the entries that it touches are told apart -/
theorem WXY.iv {l : List (Nat × Nat × Int32)} {M M1 M2 : Me} {n z c : Nat} (hx : WX l M M1) (hy : WY l M1 M2) (h : IV M n z c) (hxb : XB M2) (h92 : ∀ w ∈ l, w.1 = 92 → n ≤ w.2.1) (h91 : ∀ w ∈ l, w.1 = 91 → w.2.1 = 1 ∨ w.2.1 = 26) (hb : ∀ w ∈ l, byr w.1 → isB w.2.2) (h111 : ∀ w ∈ l, w.1 = 111 → w.2.1 < 2000) (hE : ∀ i, i < n → EOK M.1 i → EOK (ups l M.1) i) : IV M2 n z c := by
  obtain ⟨h1, h2, h3, h4, h5⟩ := h
  refine ⟨h1.congr (fun k hk => ?_), (h2.ups hb h111).congr (fun a k ha => WXY.y hx hy ⟨by omega, by omega, by omega⟩), fun i hi => (hE i hi (h3 i hi)).congr (fun a ha => WXY.y hx hy ⟨by omega, by omega, by omega⟩) (fun p hp => WXY.y hx hy ⟨by omega, by omega, by omega⟩), WXY.re hx hy h4 h92, hxb⟩
  rw [WXY.y hx hy (a := 91) (k := k) ⟨by omega, by omega, by omega⟩, ups_no (fun w hw e => by have := h91 w hw e.1.symm; omega)]
/-- an entry that no write touches in what EOK speaks of -/
theorem EOK.ups {l : List (Nat × Nat × Int32)} {σ : Nat → Nat → Int32} {i : Nat} (h : EOK σ i) (h1 : ∀ w ∈ l, (w.1 = 92 ∨ w.1 = 93 ∨ w.1 = 95 ∨ w.1 = 99 ∨ w.1 = 103 ∨ w.1 = 104 ∨ w.1 = 108 ∨ w.1 = 109) → w.2.1 ≠ i) (h2 : ∀ w ∈ l, w.1 = 101 → w.2.1 < 3 * i ∨ 3 * i + 3 ≤ w.2.1) : EOK (ups l σ) i := h.congr (fun a ha => ups_no (fun w hw e => h1 w hw (by omega) e.2.symm)) (fun p hp => ups_no (fun w hw e => by have := h2 w hw e.1.symm; omega))
