/-! THE PURE PART. Both objects are read as one table in the reference's own layout: rows 91..111 by address and place. -/
/-- where ZipForms keeps what the reference keeps at row a, place k -/
def loc (a k : Nat) : Nat × Nat :=
  if a = 91 then (if k = 1 then (0, 6) else if k = 2 then (0, 4) else if k = 22 then (0, 5) else if k = 24 then (2, 1) else (0, 7))
  else if a = 92 then (19 + 6 * k, 5) else if a = 93 then (19 + 6 * k, 6) else if a = 94 then (20 + 6 * (k / 16), k % 16) else if a = 95 then (19 + 6 * k, 7)
  else if a = 96 then (19 + 6 * k, 14) else if a = 97 then (19 + 6 * k, 15) else if a = 98 then (19 + 6 * k, 16) else if a = 99 then (19 + 6 * k, 9)
  else if a = 100 then (22 + 6 * (k / 3), k % 3) else if a = 101 then (23 + 6 * (k / 3), k % 3) else if a = 102 then (24 + 6 * (k / 24), k % 24)
  else if a = 103 then (19 + 6 * k, 10) else if a = 104 then (19 + 6 * k, 8) else if a = 105 then (21 + 6 * (k / 40), k % 40) else if a = 106 then (19 + 6 * k, 12)
  else if a = 107 then (19 + 6 * k, 13) else if a = 108 then (19 + 6 * k, 11) else if a = 109 then (19 + 6 * k, 17) else if a = 110 then (18, k) else (3, k)
/-- the places of a row that are kept -/
def lnv (a : Nat) : Nat := if a = 94 then 192 else if a = 100 then 36 else if a = 101 then 36 else if a = 102 then 288 else if a = 105 then 480 else if a = 111 then 2000 else 12
def vd (a k : Nat) : Prop := (a = 91 ∧ (k = 1 ∨ k = 2 ∨ k = 22 ∨ k = 24 ∨ k = 26)) ∨ (92 ≤ a ∧ a ≤ 111 ∧ k < lnv a)
/-- and back -/
def unl (x y : Nat) : Nat × Nat :=
  if x = 0 then (91, if y = 6 then 1 else if y = 4 then 2 else if y = 5 then 22 else 26) else if x = 2 then (91, 24) else if x = 3 then (111, y) else if x = 18 then (110, y)
  else if (x - 19) % 6 = 0 then (if y = 5 then 92 else if y = 6 then 93 else if y = 7 then 95 else if y = 8 then 104 else if y = 9 then 99 else if y = 10 then 103 else if y = 11 then 108 else if y = 12 then 106 else if y = 13 then 107 else if y = 14 then 96 else if y = 15 then 97 else if y = 16 then 98 else 109, (x - 19) / 6)
  else if (x - 19) % 6 = 1 then (94, 16 * ((x - 19) / 6) + y) else if (x - 19) % 6 = 2 then (105, 40 * ((x - 19) / 6) + y) else if (x - 19) % 6 = 3 then (100, 3 * ((x - 19) / 6) + y)
  else if (x - 19) % 6 = 4 then (101, 3 * ((x - 19) / 6) + y) else (102, 24 * ((x - 19) / 6) + y)
def msk (a : Nat) (v : Int32) : Int32 := if a = 94 ∨ a = 102 ∨ a = 105 ∨ a = 110 ∨ a = 111 then v &&& 255 else v
/-- ZipForms' part, in the reference's layout -/
def AX (M : Me) (a k : Nat) : Int32 := msk a (M.1 (loc a k).1 (loc a k).2)
theorem ifn {α : Sort _} {c : Prop} [Decidable c] {a b : α} (h : ¬ c) : (if c then a else b) = b := if_neg h
theorem unl_loc {a k : Nat} (h : vd a k) : unl (loc a k).1 (loc a k).2 = (a, k) := by
  rcases h with ⟨ha, hk⟩ | ⟨h1, h2, hk⟩
  · subst ha
    rcases hk with hk | hk | hk | hk | hk <;> subst hk <;> rfl
  · have key : ∀ s y i, s < 6 → unl (19 + s + 6 * i) y = (if s = 0 then (if y = 5 then 92 else if y = 6 then 93 else if y = 7 then 95 else if y = 8 then 104 else if y = 9 then 99 else if y = 10 then 103 else if y = 11 then 108 else if y = 12 then 106 else if y = 13 then 107 else if y = 14 then 96 else if y = 15 then 97 else if y = 16 then 98 else 109, i) else if s = 1 then (94, 16 * i + y) else if s = 2 then (105, 40 * i + y) else if s = 3 then (100, 3 * i + y) else if s = 4 then (101, 3 * i + y) else (102, 24 * i + y)) := by
      intro s y i hs
      unfold unl
      rw [if_neg (by omega), if_neg (by omega), if_neg (by omega), if_neg (by omega)]
      have e1 : (19 + s + 6 * i - 19) % 6 = s := by omega
      have e2 : (19 + s + 6 * i - 19) / 6 = i := by omega
      rw [e1, e2]
    rcases (show a = 92 ∨ a = 93 ∨ a = 94 ∨ a = 95 ∨ a = 96 ∨ a = 97 ∨ a = 98 ∨ a = 99 ∨ a = 100 ∨ a = 101 ∨ a = 102 ∨ a = 103 ∨ a = 104 ∨ a = 105 ∨ a = 106 ∨ a = 107 ∨ a = 108 ∨ a = 109 ∨ a = 110 ∨ a = 111 by omega) with q | q | q | q | q | q | q | q | q | q | q | q | q | q | q | q | q | q | q | q <;> subst q
    · exact key 0 5 k (by decide)
    · exact key 0 6 k (by decide)
    · refine (key 1 (k % 16) (k / 16) (by decide)).trans (Prod.ext rfl ?_)
      show 16 * (k / 16) + k % 16 = k
      omega
    · exact key 0 7 k (by decide)
    · exact key 0 14 k (by decide)
    · exact key 0 15 k (by decide)
    · exact key 0 16 k (by decide)
    · exact key 0 9 k (by decide)
    · refine (key 3 (k % 3) (k / 3) (by decide)).trans (Prod.ext rfl ?_)
      show 3 * (k / 3) + k % 3 = k
      omega
    · refine (key 4 (k % 3) (k / 3) (by decide)).trans (Prod.ext rfl ?_)
      show 3 * (k / 3) + k % 3 = k
      omega
    · refine (key 5 (k % 24) (k / 24) (by decide)).trans (Prod.ext rfl ?_)
      show 24 * (k / 24) + k % 24 = k
      omega
    · exact key 0 10 k (by decide)
    · exact key 0 8 k (by decide)
    · refine (key 2 (k % 40) (k / 40) (by decide)).trans (Prod.ext rfl ?_)
      show 40 * (k / 40) + k % 40 = k
      omega
    · exact key 0 12 k (by decide)
    · exact key 0 13 k (by decide)
    · exact key 0 11 k (by decide)
    · exact key 0 17 k (by decide)
    · rfl
    · rfl
theorem loc_lt {a k : Nat} (h : vd a k) : (loc a k).1 < 91 := by
  rcases h with ⟨ha, hk⟩ | ⟨h1, h2, hk⟩
  · subst ha
    rcases hk with hk | hk | hk | hk | hk <;> subst hk <;> decide
  · rcases (show a = 92 ∨ a = 93 ∨ a = 94 ∨ a = 95 ∨ a = 96 ∨ a = 97 ∨ a = 98 ∨ a = 99 ∨ a = 100 ∨ a = 101 ∨ a = 102 ∨ a = 103 ∨ a = 104 ∨ a = 105 ∨ a = 106 ∨ a = 107 ∨ a = 108 ∨ a = 109 ∨ a = 110 ∨ a = 111 by omega) with q | q | q | q | q | q | q | q | q | q | q | q | q | q | q | q | q | q | q | q <;> subst q <;> have hk : k < _ := hk <;> simp only [lnv] at hk <;> simp only [loc] <;> simp at hk ⊢ <;> omega
theorem sI_1 (M : Me) (a k : Nat) (v : Int32) : (sI M a k v).1 = up2 M.1 a k v := rfl
theorem sI_2 (M : Me) (a k : Nat) (v : Int32) : (sI M a k v).2 = M.2 := rfl
theorem up2_at {α : Type} (f : Nat → Nat → α) (a k : Nat) (v : α) (b j : Nat) : up2 f a k v b j = if b = a ∧ j = k then v else f b j := by
  unfold up2 va_up
  by_cases h : b = a
  · subst h
    by_cases h2 : j = k
    · simp [h2]
    · simp [h2]
  · simp [h]
/-- one write of ZipForms at the place of (a0, k0) -/
theorem AX_set {M : Me} {a0 k0 : Nat} {v : Int32} (h0 : vd a0 k0) {a k : Nat} (h : vd a k) : AX (sI M (loc a0 k0).1 (loc a0 k0).2 v) a k = if a = a0 ∧ k = k0 then msk a v else AX M a k := by
  unfold AX
  rw [sI_1, up2_at]
  by_cases q : a = a0 ∧ k = k0
  · obtain ⟨q1, q2⟩ := q
    subst q1
    subst q2
    rw [if_pos ⟨rfl, rfl⟩, if_pos ⟨rfl, rfl⟩]
  · rw [if_neg q, if_neg]
    intro z
    have e1 := unl_loc h
    rw [z.1, z.2, unl_loc h0] at e1
    exact q ⟨(congrArg Prod.fst e1).symm, (congrArg Prod.snd e1).symm⟩
/-- a write elsewhere -/
theorem AX_oth {M : Me} {x y : Nat} {v : Int32} (h0 : ∀ a k, vd a k → ¬ ((loc a k).1 = x ∧ (loc a k).2 = y)) {a k : Nat} (h : vd a k) : AX (sI M x y v) a k = AX M a k := by
  unfold AX
  rw [sI_1, up2_at, if_neg (h0 a k h)]
theorem AX_hi {M : Me} {x y : Nat} {v : Int32} (hx : 91 ≤ x) {a k : Nat} (h : vd a k) : AX (sI M x y v) a k = AX M a k := AX_oth (fun a k h z => by have := loc_lt h; omega) h
