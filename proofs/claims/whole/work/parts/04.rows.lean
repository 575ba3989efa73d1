/-! the words of the functions -/
def chk {γ : Type} (i : Int32) (n : Nat) (A : Option γ) : Option γ := if i < 0 ∨ n ≤ i.toNatClampNeg then none else A
def chZ {γ : Type} (x : Int32) (A : Option γ) : Option γ := if x = 0 ∨ x = 1 then A else none
def ch0 {γ : Type} (x : Int32) (A : Option γ) : Option γ := if x = 0 then none else A
def bnd {γ : Type} (M : Me) (A : Me → Option γ) : Option γ := A M
def cal {β γ : Type} (F : Option (β × Me)) (k : β → Me → Option γ) : Option γ := match F with
  | none => none
  | some q => k q.1 q.2
def eI : Int32 → Option Value := fun x => some (.int x)
def eL : Int64 → Option Value := fun x => some (.long x)
def eV : Unit → Option Value := fun _ => none
/-- a class of ours: its number, name, fields -/
def CL (ci : Nat) (C : String) (Tt : u_T) (N : Nat) : Prop := vwCl[ci]? = some (C, Tt, N) ∧ (∀ w ∈ u_ws C Tt N, w ∈ tb) ∧ nfl ci = N ∧ ci < 6 ∧ (∀ k, k < N → parseFieldDescriptor (Tt k).2.2.1 = some (tyf ci k)) ∧ (∀ a, a < N → ∀ b, b < N → a ≠ b → (Tt a).2.1 ≠ (Tt b).2.1)
def MV (y : MethodName) (cc : ByteArray) (maxL : Nat) (ret : Option FieldType) (n : Nat) : Prop := Cond.code y cc maxL ret ∈ tb ∧ Cond.initialized y.cls ∈ tb ∧ Cond.instanceMethod y ∈ tb ∧ Cond.selects y.cls y y ∈ tb ∧ (y.cls ≠ "java/lang/invoke/MethodHandle" ∧ y.cls ≠ "java/lang/invoke/VarHandle" ∧ (parseMethodDescriptor y.desc).map (fun d => d.parameters.length) = some n)
def MS (y : MethodName) (cc : ByteArray) (maxL : Nat) (ret : Option FieldType) (n : Nat) : Prop := Cond.code y cc maxL ret ∈ tb ∧ Cond.initialized y.cls ∈ tb ∧ Cond.static y ∈ tb ∧ (y.cls ≠ "java/lang/invoke/MethodHandle" ∧ y.cls ≠ "java/lang/invoke/VarHandle" ∧ (parseMethodDescriptor y.desc).map (fun d => d.parameters.length) = some n)
/-- a method's contract by its function -/
def CN {β : Type} (l : Launch) (y : MethodName) (cc : ByteArray) (maxL : Nat) (ret : Option FieldType) (rm : Room) (em : β → Option Value) (av : Nat → List Value) (M : Me) (F : Option (β × Me)) : Prop := ∀ (r : β) (M' : Me), F = some (r, M') → Ct l y cc maxL ret rm 0 0 av (mg M) (em r) (mg M')
section GB
variable {p : Program} {l : Launch} {e : Env} {R : Room} {s : State} {m : MethodId} {args : Array Value} {below : List Frame} {meth : Method} {c : Code} {D : va_G} {T : Nat → ClassId} {b nL : Nat} {cc : ByteArray} {own : String} {ret : Option FieldType} {Q : State → Prop} {pc : Nat} {lv : List (Nat × Value)} {st : List Value}
theorem n_if_eq {α : Type} {em : α → Option Value} {M : Me} {A B : Option (α × Me)} (hC : CX p s m args meth c cc nL own ret D T) {x : Int32} {off : Int} (tgt : Nat) (hd : decode cc pc = .ok (.ifCond .eq off, 3)) (ht : (pc : Int) + off = (tgt : Int)) (k1 : GN p l e R s m args below meth c D T b nL em tgt lv st M A) (k2 : GN p l e R s m args below meth c D T b nL em (pc + 3) lv st M B) : GN p l e R s m args below meth c D T b nL em pc lv (.int x :: st) M (if x = 0 then A else B) := fun r M9 h9 H locs ls hl hP hS => lv_if_eq hC.1 hC.2.1 hd ht (fun q => k1 r M9 (by rw [if_pos q] at h9; exact h9) H locs ls hl hP hS) (fun q => k2 r M9 (by rw [if_neg q] at h9; exact h9) H locs ls hl hP hS)
theorem n_if_ne {α : Type} {em : α → Option Value} {M : Me} {A B : Option (α × Me)} (hC : CX p s m args meth c cc nL own ret D T) {x : Int32} {off : Int} (tgt : Nat) (hd : decode cc pc = .ok (.ifCond .ne off, 3)) (ht : (pc : Int) + off = (tgt : Int)) (k1 : GN p l e R s m args below meth c D T b nL em tgt lv st M A) (k2 : GN p l e R s m args below meth c D T b nL em (pc + 3) lv st M B) : GN p l e R s m args below meth c D T b nL em pc lv (.int x :: st) M (if x = 0 then B else A) := fun r M9 h9 H locs ls hl hP hS => lv_if_ne hC.1 hC.2.1 hd ht (fun q => k1 r M9 (by rw [if_neg q] at h9; exact h9) H locs ls hl hP hS) (fun q => k2 r M9 (by rw [if_pos q] at h9; exact h9) H locs ls hl hP hS)
theorem n_if_lt {α : Type} {em : α → Option Value} {M : Me} {A B : Option (α × Me)} (hC : CX p s m args meth c cc nL own ret D T) {x : Int32} {off : Int} (tgt : Nat) (hd : decode cc pc = .ok (.ifCond .lt off, 3)) (ht : (pc : Int) + off = (tgt : Int)) (k1 : GN p l e R s m args below meth c D T b nL em tgt lv st M A) (k2 : GN p l e R s m args below meth c D T b nL em (pc + 3) lv st M B) : GN p l e R s m args below meth c D T b nL em pc lv (.int x :: st) M (if x < 0 then A else B) := fun r M9 h9 H locs ls hl hP hS => lv_if_lt hC.1 hC.2.1 hd ht (fun q => k1 r M9 (by rw [if_pos q] at h9; exact h9) H locs ls hl hP hS) (fun q => k2 r M9 (by rw [if_neg q] at h9; exact h9) H locs ls hl hP hS)
theorem n_if_ge {α : Type} {em : α → Option Value} {M : Me} {A B : Option (α × Me)} (hC : CX p s m args meth c cc nL own ret D T) {x : Int32} {off : Int} (tgt : Nat) (hd : decode cc pc = .ok (.ifCond .ge off, 3)) (ht : (pc : Int) + off = (tgt : Int)) (k1 : GN p l e R s m args below meth c D T b nL em tgt lv st M A) (k2 : GN p l e R s m args below meth c D T b nL em (pc + 3) lv st M B) : GN p l e R s m args below meth c D T b nL em pc lv (.int x :: st) M (if 0 ≤ x then A else B) := fun r M9 h9 H locs ls hl hP hS => lv_if_ge hC.1 hC.2.1 hd ht (fun q => k1 r M9 (by rw [if_pos q] at h9; exact h9) H locs ls hl hP hS) (fun q => k2 r M9 (by rw [if_neg q] at h9; exact h9) H locs ls hl hP hS)
theorem n_if_gt {α : Type} {em : α → Option Value} {M : Me} {A B : Option (α × Me)} (hC : CX p s m args meth c cc nL own ret D T) {x : Int32} {off : Int} (tgt : Nat) (hd : decode cc pc = .ok (.ifCond .gt off, 3)) (ht : (pc : Int) + off = (tgt : Int)) (k1 : GN p l e R s m args below meth c D T b nL em tgt lv st M A) (k2 : GN p l e R s m args below meth c D T b nL em (pc + 3) lv st M B) : GN p l e R s m args below meth c D T b nL em pc lv (.int x :: st) M (if 0 < x then A else B) := fun r M9 h9 H locs ls hl hP hS => lv_if_gt hC.1 hC.2.1 hd ht (fun q => k1 r M9 (by rw [if_pos q] at h9; exact h9) H locs ls hl hP hS) (fun q => k2 r M9 (by rw [if_neg q] at h9; exact h9) H locs ls hl hP hS)
theorem n_if_le {α : Type} {em : α → Option Value} {M : Me} {A B : Option (α × Me)} (hC : CX p s m args meth c cc nL own ret D T) {x : Int32} {off : Int} (tgt : Nat) (hd : decode cc pc = .ok (.ifCond .le off, 3)) (ht : (pc : Int) + off = (tgt : Int)) (k1 : GN p l e R s m args below meth c D T b nL em tgt lv st M A) (k2 : GN p l e R s m args below meth c D T b nL em (pc + 3) lv st M B) : GN p l e R s m args below meth c D T b nL em pc lv (.int x :: st) M (if x ≤ 0 then A else B) := fun r M9 h9 H locs ls hl hP hS => lv_if_le hC.1 hC.2.1 hd ht (fun q => k1 r M9 (by rw [if_pos q] at h9; exact h9) H locs ls hl hP hS) (fun q => k2 r M9 (by rw [if_neg q] at h9; exact h9) H locs ls hl hP hS)
theorem n_icmp_eq {α : Type} {em : α → Option Value} {M : Me} {A B : Option (α × Me)} (hC : CX p s m args meth c cc nL own ret D T) {x y : Int32} {off : Int} (tgt : Nat) (hd : decode cc pc = .ok (.if_icmp .eq off, 3)) (ht : (pc : Int) + off = (tgt : Int)) (k1 : GN p l e R s m args below meth c D T b nL em tgt lv st M A) (k2 : GN p l e R s m args below meth c D T b nL em (pc + 3) lv st M B) : GN p l e R s m args below meth c D T b nL em pc lv (.int y :: .int x :: st) M (if x = y then A else B) := fun r M9 h9 H locs ls hl hP hS => lv_icmp_eq hC.1 hC.2.1 hd ht (fun q => k1 r M9 (by rw [if_pos q] at h9; exact h9) H locs ls hl hP hS) (fun q => k2 r M9 (by rw [if_neg q] at h9; exact h9) H locs ls hl hP hS)
theorem n_icmp_ne {α : Type} {em : α → Option Value} {M : Me} {A B : Option (α × Me)} (hC : CX p s m args meth c cc nL own ret D T) {x y : Int32} {off : Int} (tgt : Nat) (hd : decode cc pc = .ok (.if_icmp .ne off, 3)) (ht : (pc : Int) + off = (tgt : Int)) (k1 : GN p l e R s m args below meth c D T b nL em tgt lv st M A) (k2 : GN p l e R s m args below meth c D T b nL em (pc + 3) lv st M B) : GN p l e R s m args below meth c D T b nL em pc lv (.int y :: .int x :: st) M (if x = y then B else A) := fun r M9 h9 H locs ls hl hP hS => lv_icmp_ne hC.1 hC.2.1 hd ht (fun q => k1 r M9 (by rw [if_neg q] at h9; exact h9) H locs ls hl hP hS) (fun q => k2 r M9 (by rw [if_pos q] at h9; exact h9) H locs ls hl hP hS)
theorem n_icmp_lt {α : Type} {em : α → Option Value} {M : Me} {A B : Option (α × Me)} (hC : CX p s m args meth c cc nL own ret D T) {x y : Int32} {off : Int} (tgt : Nat) (hd : decode cc pc = .ok (.if_icmp .lt off, 3)) (ht : (pc : Int) + off = (tgt : Int)) (k1 : GN p l e R s m args below meth c D T b nL em tgt lv st M A) (k2 : GN p l e R s m args below meth c D T b nL em (pc + 3) lv st M B) : GN p l e R s m args below meth c D T b nL em pc lv (.int y :: .int x :: st) M (if x < y then A else B) := fun r M9 h9 H locs ls hl hP hS => lv_icmp_lt hC.1 hC.2.1 hd ht (fun q => k1 r M9 (by rw [if_pos q] at h9; exact h9) H locs ls hl hP hS) (fun q => k2 r M9 (by rw [if_neg q] at h9; exact h9) H locs ls hl hP hS)
theorem n_icmp_ge {α : Type} {em : α → Option Value} {M : Me} {A B : Option (α × Me)} (hC : CX p s m args meth c cc nL own ret D T) {x y : Int32} {off : Int} (tgt : Nat) (hd : decode cc pc = .ok (.if_icmp .ge off, 3)) (ht : (pc : Int) + off = (tgt : Int)) (k1 : GN p l e R s m args below meth c D T b nL em tgt lv st M A) (k2 : GN p l e R s m args below meth c D T b nL em (pc + 3) lv st M B) : GN p l e R s m args below meth c D T b nL em pc lv (.int y :: .int x :: st) M (if y ≤ x then A else B) := fun r M9 h9 H locs ls hl hP hS => lv_icmp_ge hC.1 hC.2.1 hd ht (fun q => k1 r M9 (by rw [if_pos q] at h9; exact h9) H locs ls hl hP hS) (fun q => k2 r M9 (by rw [if_neg q] at h9; exact h9) H locs ls hl hP hS)
theorem n_icmp_gt {α : Type} {em : α → Option Value} {M : Me} {A B : Option (α × Me)} (hC : CX p s m args meth c cc nL own ret D T) {x y : Int32} {off : Int} (tgt : Nat) (hd : decode cc pc = .ok (.if_icmp .gt off, 3)) (ht : (pc : Int) + off = (tgt : Int)) (k1 : GN p l e R s m args below meth c D T b nL em tgt lv st M A) (k2 : GN p l e R s m args below meth c D T b nL em (pc + 3) lv st M B) : GN p l e R s m args below meth c D T b nL em pc lv (.int y :: .int x :: st) M (if y < x then A else B) := fun r M9 h9 H locs ls hl hP hS => lv_icmp_gt hC.1 hC.2.1 hd ht (fun q => k1 r M9 (by rw [if_pos q] at h9; exact h9) H locs ls hl hP hS) (fun q => k2 r M9 (by rw [if_neg q] at h9; exact h9) H locs ls hl hP hS)
theorem n_icmp_le {α : Type} {em : α → Option Value} {M : Me} {A B : Option (α × Me)} (hC : CX p s m args meth c cc nL own ret D T) {x y : Int32} {off : Int} (tgt : Nat) (hd : decode cc pc = .ok (.if_icmp .le off, 3)) (ht : (pc : Int) + off = (tgt : Int)) (k1 : GN p l e R s m args below meth c D T b nL em tgt lv st M A) (k2 : GN p l e R s m args below meth c D T b nL em (pc + 3) lv st M B) : GN p l e R s m args below meth c D T b nL em pc lv (.int y :: .int x :: st) M (if x ≤ y then A else B) := fun r M9 h9 H locs ls hl hP hS => lv_icmp_le hC.1 hC.2.1 hd ht (fun q => k1 r M9 (by rw [if_pos q] at h9; exact h9) H locs ls hl hP hS) (fun q => k2 r M9 (by rw [if_neg q] at h9; exact h9) H locs ls hl hP hS)
theorem n_lcmp {α : Type} {em : α → Option Value} {M : Me} {F : Option (α × Me)} (hC : CX p s m args meth c cc nL own ret D T) {x y : Int64} (hd : decode cc pc = .ok (.lcmp, 1)) (k : GN p l e R s m args below meth c D T b nL em (pc + 1) lv (.int (lg_cmp x y) :: st) M F) : GN p l e R s m args below meth c D T b nL em pc lv (.long y :: .long x :: st) M F := fun r M9 h9 H locs ls hl hP hS => W.lcmp hC.1 hC.2.1 hd (k r M9 h9 H locs ls hl hP hS)
theorem n_ishl {α : Type} {em : α → Option Value} {M : Me} {F : Option (α × Me)} (hC : CX p s m args meth c cc nL own ret D T) {x y : Int32} (hd : decode cc pc = .ok (.ishl, 1)) (k : GN p l e R s m args below meth c D T b nL em (pc + 1) lv (.int (x <<< (y &&& 31)) :: st) M F) : GN p l e R s m args below meth c D T b nL em pc lv (.int y :: .int x :: st) M F := fun r M9 h9 H locs ls hl hP hS => lv_ishl hC.1 hC.2.1 hd (k r M9 h9 H locs ls hl hP hS)
theorem n_idiv {α : Type} {em : α → Option Value} {M : Me} {A : Option (α × Me)} (hC : CX p s m args meth c cc nL own ret D T) {x y : Int32} (hd : decode cc pc = .ok (.idiv, 1)) (k : GN p l e R s m args below meth c D T b nL em (pc + 1) lv (.int (x / y) :: st) M A) : GN p l e R s m args below meth c D T b nL em pc lv (.int y :: .int x :: st) M (ch0 y A) := by
  intro r M9 h9 H locs ls hl hP hS
  by_cases hy : y = 0
  · unfold ch0 at h9
    rw [if_pos hy] at h9
    cases h9
  · unfold ch0 at h9
    rw [if_neg hy] at h9
    exact lv_idiv hC.1 hC.2.1 hd hy (k r M9 h9 H locs ls hl hP hS)
theorem n_irem {α : Type} {em : α → Option Value} {M : Me} {A : Option (α × Me)} (hC : CX p s m args meth c cc nL own ret D T) {x y : Int32} (hd : decode cc pc = .ok (.irem, 1)) (k : GN p l e R s m args below meth c D T b nL em (pc + 1) lv (.int (iRem x y) :: st) M A) : GN p l e R s m args below meth c D T b nL em pc lv (.int y :: .int x :: st) M (ch0 y A) := by
  intro r M9 h9 H locs ls hl hP hS
  by_cases hy : y = 0
  · unfold ch0 at h9
    rw [if_pos hy] at h9
    cases h9
  · unfold ch0 at h9
    rw [if_neg hy] at h9
    exact lv_irem hC.1 hC.2.1 hd hy (k r M9 h9 H locs ls hl hP hS)
theorem chk_in {γ : Type} {i : Int32} {n : Nat} {A : Option γ} {z : γ} (h : chk i n A = some z) : vp_in i n ∧ A = some z := by
  unfold chk at h
  by_cases hq : i < 0 ∨ n ≤ i.toNatClampNeg
  · rw [if_pos hq] at h
    cases h
  · rw [if_neg hq] at h
    exact ⟨hq, h⟩
theorem ar_at {D : va_G} {T : Nat → ClassId} {b : Nat} {M : Me} {H : Heap} {a ci : Nat} (hk : kd a = ci) (hc : ¬ ci < 6) (hc2 : ci < 9) : (wsM T b (mg M))[a]? = some (b + a, .inl (T ci, ln a, .inl (M.1 a))) := by
  rw [wsM_at (M := mg M) (kd_lt hk (by omega)), cel_arr hk hc hc2]
  rfl
theorem n_iald {α : Type} {em : α → Option Value} {M : Me} {A : Option (α × Me)} (hC : CX p s m args meth c cc nL own ret D T) {a : Nat} {i : Int32} (hk : kd a = 7) (hd : decode cc pc = .ok (.iaload, 1)) (k : vp_in i (ln a) → GN p l e R s m args below meth c D T b nL em (pc + 1) lv (.int (M.1 a i.toNatClampNeg) :: st) M A) : GN p l e R s m args below meth c D T b nL em pc lv (.int i :: .ref (b + a) :: st) M (chk i (ln a) A) := by
  intro r M9 h9 H locs ls hl hP hS
  obtain ⟨hi, h9⟩ := chk_in h9
  exact va_iald hC.1 hC.2.1 hC.2.2.2.2.2.2.2.1 hP a 1 (ar_at (D := D) (H := H) hk (by decide) (by decide)) rfl hi hd (k hi r M9 h9 H locs ls hl hP hS)
theorem n_bald {α : Type} {em : α → Option Value} {M : Me} {A : Option (α × Me)} (hC : CX p s m args meth c cc nL own ret D T) {a : Nat} {i : Int32} (hk : kd a = 6) (hd : decode cc pc = .ok (.baload, 1)) (k : vp_in i (ln a) → GN p l e R s m args below meth c D T b nL em (pc + 1) lv (.int (M.1 a i.toNatClampNeg) :: st) M A) : GN p l e R s m args below meth c D T b nL em pc lv (.int i :: .ref (b + a) :: st) M (chk i (ln a) A) := by
  intro r M9 h9 H locs ls hl hP hS
  obtain ⟨hi, h9⟩ := chk_in h9
  exact va_bald hC.1 hC.2.1 hC.2.2.2.2.2.2.2.1 hP a 0 (ar_at (D := D) (H := H) hk (by decide) (by decide)) rfl hi hd (k hi r M9 h9 H locs ls hl hP hS)
theorem n_zald {α : Type} {em : α → Option Value} {M : Me} {A : Option (α × Me)} (hC : CX p s m args meth c cc nL own ret D T) {a : Nat} {i : Int32} (hk : kd a = 8) (hd : decode cc pc = .ok (.baload, 1)) (k : vp_in i (ln a) → GN p l e R s m args below meth c D T b nL em (pc + 1) lv (.int (M.1 a i.toNatClampNeg) :: st) M A) : GN p l e R s m args below meth c D T b nL em pc lv (.int i :: .ref (b + a) :: st) M (chk i (ln a) A) := by
  intro r M9 h9 H locs ls hl hP hS
  obtain ⟨hi, h9⟩ := chk_in h9
  exact va_zald hC.1 hC.2.1 hC.2.2.2.2.2.2.2.1 hP a 2 (ar_at (D := D) (H := H) hk (by decide) (by decide)) rfl hi hd (k hi r M9 h9 H locs ls hl hP hS)
theorem n_iast {α : Type} {em : α → Option Value} {M : Me} {A : Me → Option (α × Me)} (hC : CX p s m args meth c cc nL own ret D T) {a : Nat} {i x : Int32} (hk : kd a = 7) (hd : decode cc pc = .ok (.iastore, 1)) (k : ∀ M1 : Me, GN p l e R s m args below meth c D T b nL em (pc + 1) lv st M1 (A M1)) : GN p l e R s m args below meth c D T b nL em pc lv (.int x :: .int i :: .ref (b + a) :: st) M (chk i (ln a) (bnd (sI M a i.toNatClampNeg x) A)) := by
  intro r M9 h9 H locs ls hl hP hS
  obtain ⟨hi, h9⟩ := chk_in h9
  refine va_iast hC.1 hC.2.1 hC.2.2.2.2.2.2.2.1 hP wsM_D hS a 1 (ar_at (D := D) (H := H) hk (by decide) (by decide)) rfl hi hd (fun H1 locs1 hP1 hD1 hS1 => ?_)
  refine k _ r M9 h9 H1 locs1 ls hl ?_ hS1
  rw [wsM_set (M := mg M) (M' := mg (sI M a i.toNatClampNeg x)) rfl ?_ ?_] at hP1
  · exact hP1
  · rw [cel_arr hk (by decide) (by decide)]
    show _ = Sum.inl (T 7, ln a, Sum.inl (up2 M.1 a i.toNatClampNeg x a))
    rw [up2_row]
    rfl
  · intro q hq
    exact cel_oth (up2_r _ _ _ hq) rfl rfl
theorem n_bast {α : Type} {em : α → Option Value} {M : Me} {A : Me → Option (α × Me)} (hC : CX p s m args meth c cc nL own ret D T) {a : Nat} {i x : Int32} (hk : kd a = 6) (hd : decode cc pc = .ok (.bastore, 1)) (k : ∀ M1 : Me, GN p l e R s m args below meth c D T b nL em (pc + 1) lv st M1 (A M1)) : GN p l e R s m args below meth c D T b nL em pc lv (.int x :: .int i :: .ref (b + a) :: st) M (chk i (ln a) (bnd (sI M a i.toNatClampNeg (vp_nar .byte x)) A)) := by
  intro r M9 h9 H locs ls hl hP hS
  obtain ⟨hi, h9⟩ := chk_in h9
  refine va_bast hC.1 hC.2.1 hC.2.2.2.2.2.2.2.1 hP wsM_D hS a 0 (ar_at (D := D) (H := H) hk (by decide) (by decide)) rfl hi hd (fun H1 locs1 hP1 hD1 hS1 => ?_)
  refine k _ r M9 h9 H1 locs1 ls hl ?_ hS1
  rw [wsM_set (M := mg M) (M' := mg (sI M a i.toNatClampNeg (vp_nar .byte x))) rfl ?_ ?_] at hP1
  · exact hP1
  · rw [cel_arr hk (by decide) (by decide)]
    show _ = Sum.inl (T 6, ln a, Sum.inl (up2 M.1 a i.toNatClampNeg (vp_nar .byte x) a))
    rw [up2_row]
    rfl
  · intro q hq
    exact cel_oth (up2_r _ _ _ hq) rfl rfl
theorem n_zast {α : Type} {em : α → Option Value} {M : Me} {A : Me → Option (α × Me)} (hC : CX p s m args meth c cc nL own ret D T) {a : Nat} {i x : Int32} (hk : kd a = 8) (hd : decode cc pc = .ok (.bastore, 1)) (k : ∀ M1 : Me, GN p l e R s m args below meth c D T b nL em (pc + 1) lv st M1 (A M1)) : GN p l e R s m args below meth c D T b nL em pc lv (.int x :: .int i :: .ref (b + a) :: st) M (chk i (ln a) (bnd (sI M a i.toNatClampNeg (vp_nar .boolean x)) A)) := by
  intro r M9 h9 H locs ls hl hP hS
  obtain ⟨hi, h9⟩ := chk_in h9
  refine va_zast hC.1 hC.2.1 hC.2.2.2.2.2.2.2.1 hP wsM_D hS a 2 (ar_at (D := D) (H := H) hk (by decide) (by decide)) rfl hi hd (fun H1 locs1 hP1 hD1 hS1 => ?_)
  refine k _ r M9 h9 H1 locs1 ls hl ?_ hS1
  rw [wsM_set (M := mg M) (M' := mg (sI M a i.toNatClampNeg (vp_nar .boolean x))) rfl ?_ ?_] at hP1
  · exact hP1
  · rw [cel_arr hk (by decide) (by decide)]
    show _ = Sum.inl (T 8, ln a, Sum.inl (up2 M.1 a i.toNatClampNeg (vp_nar .boolean x) a))
    rw [up2_row]
    rfl
  · intro q hq
    exact cel_oth (up2_r _ _ _ hq) rfl rfl
theorem n_alen {α : Type} {em : α → Option Value} {M : Me} {F : Option (α × Me)} (hC : CX p s m args meth c cc nL own ret D T) {a ci : Nat} (hk : kd a = ci) (hc : 6 ≤ ci ∧ ci < 9) (hd : decode cc pc = .ok (.arraylength, 1)) (k : GN p l e R s m args below meth c D T b nL em (pc + 1) lv (.int (nI (ln a)) :: st) M F) : GN p l e R s m args below meth c D T b nL em pc lv (.ref (b + a) :: st) M F := by
  intro r M9 h9 H locs ls hl hP hS
  obtain ⟨ty, ht⟩ : ∃ ty, (tyl T)[ci - 6]? = some (T ci, ty) := by
    rcases (show ci = 6 ∨ ci = 7 ∨ ci = 8 by omega) with q | q | q <;> subst q <;> exact ⟨_, rfl⟩
  exact va_alen hC.1 hC.2.1 hC.2.2.2.2.2.2.2.1 hP a (ci - 6) (ar_at (D := D) (H := H) hk (by omega) hc.2) ht rfl hd (k r M9 h9 H locs ls hl hP hS)
theorem n_aaldE {α : Type} {em : α → Option Value} {M : Me} {A : Option (α × Me)} (hC : CX p s m args meth c cc nL own ret D T) {a : Nat} {i : Int32} (hk : kd a = 9) (hd : decode cc pc = .ok (.aaload, 1)) (k : vp_in i (ln a) → GN p l e R s m args below meth c D T b nL em (pc + 1) lv (.ref (b + rf a i.toNatClampNeg) :: st) M A) : GN p l e R s m args below meth c D T b nL em pc lv (.int i :: .ref (b + a) :: st) M (chk i (ln a) A) := by
  intro r M9 h9 H locs ls hl hP hS
  obtain ⟨hi, h9⟩ := chk_in h9
  exact va_aldq (f := fun j => some (b + rf a j)) hC.1 hC.2.1 hC.2.2.2.2.2.2.2.1 hP a 3 ((wsM_at (M := mg M) (kd_lt hk (by decide))).trans (by rw [cel_ref hk (by decide)]; rfl)) rfl hi hd (k hi r M9 h9 H locs ls hl hP hS)
theorem n_aaldR {α : Type} {em : α → Option Value} {M : Me} {A : Option (α × Me)} (hC : CX p s m args meth c cc nL own ret D T) {a : Nat} {i : Int32} (hk : kd a = 10) (hd : decode cc pc = .ok (.aaload, 1)) (k : vp_in i (ln a) → GN p l e R s m args below meth c D T b nL em (pc + 1) lv (.ref (b + rf a i.toNatClampNeg) :: st) M A) : GN p l e R s m args below meth c D T b nL em pc lv (.int i :: .ref (b + a) :: st) M (chk i (ln a) A) := by
  intro r M9 h9 H locs ls hl hP hS
  obtain ⟨hi, h9⟩ := chk_in h9
  exact va_aldq (f := fun j => some (b + rf a j)) hC.1 hC.2.1 hC.2.2.2.2.2.2.2.1 hP a 4 ((wsM_at (M := mg M) (kd_lt hk (by decide))).trans (by rw [cel_ref hk (by decide)]; rfl)) rfl hi hd (k hi r M9 h9 H locs ls hl hP hS)
theorem ob_at {T : Nat → ClassId} {b : Nat} {M : Me} {a ci : Nat} (hk : kd a = ci) (hc : ci < 6) : (wsM T b (mg M))[a]? = some (b + a, .inr (ci, (List.range (nfl ci)).map (fun k => fvl b (mg M) a (tyf ci k) k))) := by
  rw [wsM_at (M := mg M) (kd_lt hk (by omega)), cel_obj hk hc]
theorem fs_at {α : Type} {f : Nat → α} {N k : Nat} (h : k < N) : ((List.range N).map f)[k]? = some (f k) := by
  rw [List.getElem?_map, List.getElem?_range h]
  rfl
theorem n_get {α : Type} {em : α → Option Value} {M : Me} {F : Option (α × Me)} (hC : CX p s m args meth c cc nL own ret D T) {ci N index : Nat} {C : String} {Tt : u_T} (hCL : CL ci C Tt N) {a : Nat} (hk : kd a = ci) (k : Nat) (v : Value) (hkN : k < N) (hn : (Tt k).1 = C) (hw : Cond.fieldLink own index C (Tt k).2.1 (Tt k).2.2.1 ∈ tb) (hv : fvl b (mg M) a (tyf ci k) k = v) (hd : decode cc pc = .ok (.getfield index, 3)) (kk : GN p l e R s m args below meth c D T b nL em (pc + 3) lv (v :: st) M F) : GN p l e R s m args below meth c D T b nL em pc lv (.ref (b + a) :: st) M F := by
  intro r M9 h9 H locs ls hl hP hS
  obtain ⟨c1, c2, c3, c4, c5, c6⟩ := hCL
  exact va_get hC.1 hC.2.1 hC.2.2.2.2.2.2.1 c2 hC.2.2.2.1 hC.2.2.2.2.2.2.2.1 hP a (ob_at hk c4) c1 k hkN (hC.2.2.2.2.2.2.1 _ hw) (fun x h => by rw [hn] at h; exact h) (by rw [fs_at (by rw [c3]; exact hkN), hv]) hd (kk r M9 h9 H locs ls hl hP hS)
theorem n_putI {α : Type} {em : α → Option Value} {M : Me} {A : Me → Option (α × Me)} (hC : CX p s m args meth c cc nL own ret D T) {ci N index : Nat} {C : String} {Tt : u_T} (hCL : CL ci C Tt N) {a : Nat} (hk : kd a = ci) (k : Nat) {x : Int32} (hkN : k < N) (hn : (Tt k).1 = C) (hty : tyf ci k = .int) (hfin : (Tt k).2.2.2 = false) (hw : Cond.fieldLink own index C (Tt k).2.1 (Tt k).2.2.1 ∈ tb) (hd : decode cc pc = .ok (.putfield index, 3)) (kk : ∀ M1 : Me, GN p l e R s m args below meth c D T b nL em (pc + 3) lv st M1 (A M1)) : GN p l e R s m args below meth c D T b nL em pc lv (.int x :: .ref (b + a) :: st) M (bnd (sI M a k x) A) := by
  intro r M9 h9 H locs ls hl hP hS
  obtain ⟨c1, c2, c3, c4, c5, c6⟩ := hCL
  refine va_put hC.1 hC.2.1 hC.2.2.2.2.2.2.1 c2 (tyf ci) c5 c6 hC.2.2.2.1 hC.2.2.2.2.2.2.2.1 hP wsM_D hS a (ob_at hk c4) c1 k hkN (hC.2.2.2.2.2.2.1 _ hw) (fun x h => by rw [hn] at h; exact h) hfin (c5 k hkN) (by rw [hty]; rfl) (by rw [hty]; rfl) (by simpa [c3] using hkN) hd (fun H1 locs1 hP1 hD1 hS1 => ?_)
  refine kk _ r M9 h9 H1 locs1 ls hl ?_ hS1
  rw [wsM_set (M := mg M) (M' := mg (sI M a k x)) rfl ?_ ?_] at hP1
  · exact hP1
  · rw [cel_obj hk c4]
    refine congrArg (fun z => Sum.inr (ci, z)) (map_set (fun j => fvl b (mg M) a (tyf ci j) j) (fun j => fvl b (mg (sI M a k x)) a (tyf ci j) j) _ _ _ ?_ ?_)
    · show fvl b (mg (sI M a k x)) a (tyf ci k) k = _
      rw [hty]
      show Value.int (up2 M.1 a k x a k) = _
      rw [up2_s]
    · intro j hj
      show fvl b (mg (sI M a k x)) a (tyf ci j) j = fvl b (mg M) a (tyf ci j) j
      unfold fvl
      have e1 : (mg (sI M a k x)).1 a j = (mg M).1 a j := up2_k _ _ hj
      split <;> first | rfl | (rw [e1])
  · intro q hq
    exact cel_oth (up2_r _ _ _ hq) rfl rfl
theorem n_putL {α : Type} {em : α → Option Value} {M : Me} {A : Me → Option (α × Me)} (hC : CX p s m args meth c cc nL own ret D T) {ci N index : Nat} {C : String} {Tt : u_T} (hCL : CL ci C Tt N) {a : Nat} (hk : kd a = ci) (k : Nat) {x : Int64} (hkN : k < N) (hn : (Tt k).1 = C) (hty : tyf ci k = .long) (hfin : (Tt k).2.2.2 = false) (hw : Cond.fieldLink own index C (Tt k).2.1 (Tt k).2.2.1 ∈ tb) (hd : decode cc pc = .ok (.putfield index, 3)) (kk : ∀ M1 : Me, GN p l e R s m args below meth c D T b nL em (pc + 3) lv st M1 (A M1)) : GN p l e R s m args below meth c D T b nL em pc lv (.long x :: .ref (b + a) :: st) M (bnd (sL M a k x) A) := by
  intro r M9 h9 H locs ls hl hP hS
  obtain ⟨c1, c2, c3, c4, c5, c6⟩ := hCL
  refine va_put hC.1 hC.2.1 hC.2.2.2.2.2.2.1 c2 (tyf ci) c5 c6 hC.2.2.2.1 hC.2.2.2.2.2.2.2.1 hP wsM_D hS a (ob_at hk c4) c1 k hkN (hC.2.2.2.2.2.2.1 _ hw) (fun x h => by rw [hn] at h; exact h) hfin (c5 k hkN) (by rw [hty]; rfl) (by rw [hty]; rfl) (by simpa [c3] using hkN) hd (fun H1 locs1 hP1 hD1 hS1 => ?_)
  refine kk _ r M9 h9 H1 locs1 ls hl ?_ hS1
  rw [wsM_set (M := mg M) (M' := mg (sL M a k x)) rfl ?_ ?_] at hP1
  · exact hP1
  · rw [cel_obj hk c4]
    refine congrArg (fun z => Sum.inr (ci, z)) (map_set (fun j => fvl b (mg M) a (tyf ci j) j) (fun j => fvl b (mg (sL M a k x)) a (tyf ci j) j) _ _ _ ?_ ?_)
    · show fvl b (mg (sL M a k x)) a (tyf ci k) k = _
      rw [hty]
      show Value.long (up2 M.2 a k x a k) = _
      rw [up2_s]
    · intro j hj
      show fvl b (mg (sL M a k x)) a (tyf ci j) j = fvl b (mg M) a (tyf ci j) j
      unfold fvl
      have e1 : (mg (sL M a k x)).2.1 a j = (mg M).2.1 a j := up2_k _ _ hj
      split <;> first | rfl | (rw [e1])
  · intro q hq
    exact cel_oth rfl (up2_r _ _ _ hq) rfl
theorem n_putZ {α : Type} {em : α → Option Value} {M : Me} {A : Me → Option (α × Me)} (hC : CX p s m args meth c cc nL own ret D T) {ci N index : Nat} {C : String} {Tt : u_T} (hCL : CL ci C Tt N) {a : Nat} (hk : kd a = ci) (k : Nat) {x : Int32} (hkN : k < N) (hn : (Tt k).1 = C) (hty : tyf ci k = .boolean) (hfin : (Tt k).2.2.2 = false) (hw : Cond.fieldLink own index C (Tt k).2.1 (Tt k).2.2.1 ∈ tb) (hd : decode cc pc = .ok (.putfield index, 3)) (kk : ∀ M1 : Me, GN p l e R s m args below meth c D T b nL em (pc + 3) lv st M1 (A M1)) : GN p l e R s m args below meth c D T b nL em pc lv (.int x :: .ref (b + a) :: st) M (chZ x (bnd (sI M a k x) A)) := by
  intro r M9 h9 H locs ls hl hP hS
  obtain ⟨c1, c2, c3, c4, c5, c6⟩ := hCL
  have hz : x = 0 ∨ x = 1 := by
    unfold chZ at h9
    by_cases q : x = 0 ∨ x = 1
    · exact q
    · rw [if_neg q] at h9
      cases h9
  unfold chZ at h9
  rw [if_pos hz] at h9
  refine va_put hC.1 hC.2.1 hC.2.2.2.2.2.2.1 c2 (tyf ci) c5 c6 hC.2.2.2.1 hC.2.2.2.2.2.2.2.1 hP wsM_D hS a (ob_at hk c4) c1 k hkN (hC.2.2.2.2.2.2.1 _ hw) (fun x h => by rw [hn] at h; exact h) hfin (c5 k hkN) (by rw [hty]; rcases hz with q | q <;> subst q <;> rfl) (by rw [hty]; rcases hz with q | q <;> subst q <;> rfl) (by simpa [c3] using hkN) hd (fun H1 locs1 hP1 hD1 hS1 => ?_)
  refine kk _ r M9 h9 H1 locs1 ls hl ?_ hS1
  rw [wsM_set (M := mg M) (M' := mg (sI M a k x)) rfl ?_ ?_] at hP1
  · exact hP1
  · rw [cel_obj hk c4]
    refine congrArg (fun z => Sum.inr (ci, z)) (map_set (fun j => fvl b (mg M) a (tyf ci j) j) (fun j => fvl b (mg (sI M a k x)) a (tyf ci j) j) _ _ _ ?_ ?_)
    · show fvl b (mg (sI M a k x)) a (tyf ci k) k = _
      rw [hty]
      show Value.int (up2 M.1 a k x a k) = _
      rw [up2_s]
    · intro j hj
      show fvl b (mg (sI M a k x)) a (tyf ci j) j = fvl b (mg M) a (tyf ci j) j
      unfold fvl
      have e1 : (mg (sI M a k x)).1 a j = (mg M).1 a j := up2_k _ _ hj
      split <;> first | rfl | (rw [e1])
  · intro q hq
    exact cel_oth (up2_r _ _ _ hq) rfl rfl
theorem n_iret {M : Me} {x : Int32} (hC : CX p s m args meth c cc nL own (some .int) D T) (hd : decode cc pc = .ok (.ireturn, 1)) : GN p l e R s m args below meth c D T b nL eI pc lv [.int x] M (some (x, M)) := by
  intro r M9 h9 H locs ls hl hP hS
  cases h9
  have hlk := hC.2.2.2.2.2.1
  exact W.iret hC.1 hC.2.1 hC.2.2.2.2.1 (fun t ht hW => ⟨⟨rfl, by rw [ht]; exact hP⟩, hS.F ht⟩) hS.2.2 hd
theorem n_lret {M : Me} {x : Int64} (hC : CX p s m args meth c cc nL own (some .long) D T) (hd : decode cc pc = .ok (.lreturn, 1)) : GN p l e R s m args below meth c D T b nL eL pc lv [.long x] M (some (x, M)) := by
  intro r M9 h9 H locs ls hl hP hS
  cases h9
  have hlk := hC.2.2.2.2.2.1
  exact W.lret hC.1 hC.2.1 hC.2.2.2.2.1 (fun t ht hW => ⟨⟨rfl, by rw [ht]; exact hP⟩, hS.F ht⟩) hS.2.2 hd
theorem n_zret {M : Me} {x : Int32} (hC : CX p s m args meth c cc nL own (some .boolean) D T) (hd : decode cc pc = .ok (.ireturn, 1)) : GN p l e R s m args below meth c D T b nL eI pc lv [.int x] M (chZ x (some (x, M))) := by
  intro r M9 h9 H locs ls hl hP hS
  have hz : x = 0 ∨ x = 1 := by
    unfold chZ at h9
    by_cases q : x = 0 ∨ x = 1
    · exact q
    · rw [if_neg q] at h9
      cases h9
  unfold chZ at h9
  rw [if_pos hz] at h9
  cases h9
  have hlk := hC.2.2.2.2.2.1
  exact W.zret hC.1 hC.2.1 hC.2.2.2.2.1 (by rcases hz with q | q <;> subst q <;> rfl) (fun t ht hW => ⟨⟨rfl, by rw [ht]; exact hP⟩, hS.F ht⟩) hS.2.2 hd
theorem n_vret {M : Me} (hC : CX p s m args meth c cc nL own none D T) (hd : decode cc pc = .ok (.return_, 1)) : GN p l e R s m args below meth c D T b nL eV pc lv [] M (some ((), M)) := by
  intro r M9 h9 H locs ls hl hP hS
  cases h9
  have hlk := hC.2.2.2.2.2.1
  exact W.vret hC.1 hC.2.1 hC.2.2.2.2.1 (fun t ht hW => ⟨⟨rfl, by rw [ht]; exact hP⟩, hS.F ht⟩) hS.2.2 hd
theorem cal_some {β γ : Type} {F : Option (β × Me)} {k : β → Me → Option γ} {z : γ} (h : cal F k = some z) : ∃ (r : β) (M1 : Me), F = some (r, M1) ∧ k r M1 = some z := by
  cases F with
  | none => cases h
  | some q => exact ⟨q.1, q.2, rfl, h⟩
theorem PC.of {D : va_G} {T : Nat → ClassId} {b : Nat} {av : List Value} {M : MG} {s : State} {H : Heap} (hK : va_K D vwCl (tyl T) s) (hN : NW s) (hP : RP D T b M H) : ∀ U : State, U.heap = H → s.WarmedH U.vm → PC D T b av M av.toArray U := fun U hU hW => ⟨rfl, by rw [hU]; exact hP, va_K.moved hW.alike hK, NW.warm hW hN⟩
theorem GG_callV {M : MG} {y : MethodName} {c2 : ByteArray} {maxL n index : Nat} {ret2 : Option FieldType} {rm : Room} {mc ms cells slots : Nat} {av : Nat → List Value} {v : Option Value} {M' : MG} {As rest : List Value} {a ci N9 : Nat} {T9 : u_T} (hk : kd a = ci) (hcl : vwCl[ci]? = some (y.cls, T9, N9)) (hc6 : ci < 6) (hC : CX p s m args meth c cc nL own ret D T) (hM : Ct l y c2 maxL ret2 rm mc ms av M v M') (hy : MV y c2 maxL ret2 n) (hw : Cond.methodLink own index y ∈ tb) (hn : As.length = n) (hav : av b = .ref (b + a) :: As) (ha : a < M.2.2.2) (hrm : rm.cells = mc ∧ rm.slots = ms) (hst : st = As.reverse ++ .ref (b + a) :: rest) (hroom : (rest.map fun v => v.category).sum ≤ 8) (hR : rm.frames + 1 ≤ R.frames ∧ 8 + (maxL + 11) + rm.locals ≤ R.locals) (hcs : cells + mc ≤ R.cells ∧ slots + ms ≤ R.slots) (hd : decode cc pc = .ok (.invokevirtual index, 3))
    (kk : GG p l e R s m args below meth c D T b nL (cells + mc) (slots + ms) Q (pc + 3) lv (v.toList ++ rest) M') : GG p l e R s m args below meth c D T b nL cells slots Q pc lv st M := by
  intro H locs ls hl hP hS
  obtain ⟨hx, hb, hml, hown, hret, hlk, hts, hK, hN⟩ := hC
  obtain ⟨y1, y2, y3, y4, y5⟩ := hy
  refine GG_cont (rest := rest) (a := (Value.ref (b + a) :: As).toArray) (va_runV (C := y.cls) (As := As) (rest := rest) (b := b + a) (ret := ret2) (bytes := c2) (n := n) ⟨hx, hb, hml, hown, hts⟩ (hM D T b) ⟨callB_of n hts (tb_good y1) rfl hrm.1 hrm.2 (hts _ y2) (hts _ hw) y5 hR, hts _ y3, hts _ y4⟩ ⟨PC.blind, va_recv hK hP hcl (by rw [wsM_at ha, cel_obj hk hc6]), ?_⟩ rfl hn hl.1 hst (lv_room hroom) hd hcs) hl hS kk
  rw [← hav]
  exact PC.of hK hN hP
theorem n_callVi {α : Type} {em : α → Option Value} {M : Me} {y : MethodName} {c2 : ByteArray} {maxL n index f9 l9 : Nat} {ret2 : Option FieldType} {av : Nat → List Value} {As rest : List Value} {F1 : Option (Int32 × Me)} {k : Int32 → Me → Option (α × Me)} {a ci N9 : Nat} {T9 : u_T} (hk : kd a = ci) (hcl : vwCl[ci]? = some (y.cls, T9, N9)) (hc6 : ci < 6) (hC : CX p s m args meth c cc nL own ret D T) (hM : CN l y c2 maxL ret2 (k2_rm f9 l9) eI av M F1) (hy : MV y c2 maxL ret2 n) (hw : Cond.methodLink own index y ∈ tb) (hn : As.length = n) (hav : av b = .ref (b + a) :: As) (hst : st = As.reverse ++ .ref (b + a) :: rest) (hroom : (rest.map fun v => v.category).sum ≤ 8) (hR : (k2_rm f9 l9).frames + 1 ≤ R.frames ∧ 8 + (maxL + 11) + (k2_rm f9 l9).locals ≤ R.locals) (hd : decode cc pc = .ok (.invokevirtual index, 3))
    (kk : ∀ (r : Int32) (M1 : Me), GN p l e R s m args below meth c D T b nL em (pc + 3) lv (.int r :: rest) M1 (k r M1)) : GN p l e R s m args below meth c D T b nL em pc lv st M (cal F1 k) := by
  intro r M9 h9
  obtain ⟨r1, M1, e1, h9⟩ := cal_some h9
  exact GG_callV (hk := hk) (hcl := hcl) (hc6 := hc6) hC (hM r1 M1 e1) hy hw hn hav (kd_lt hk (by omega)) ⟨rfl, rfl⟩ hst hroom hR ⟨Nat.zero_le _, Nat.zero_le _⟩ hd (kk r1 M1 r M9 h9)
theorem n_callVl {α : Type} {em : α → Option Value} {M : Me} {y : MethodName} {c2 : ByteArray} {maxL n index f9 l9 : Nat} {ret2 : Option FieldType} {av : Nat → List Value} {As rest : List Value} {F1 : Option (Int64 × Me)} {k : Int64 → Me → Option (α × Me)} {a ci N9 : Nat} {T9 : u_T} (hk : kd a = ci) (hcl : vwCl[ci]? = some (y.cls, T9, N9)) (hc6 : ci < 6) (hC : CX p s m args meth c cc nL own ret D T) (hM : CN l y c2 maxL ret2 (k2_rm f9 l9) eL av M F1) (hy : MV y c2 maxL ret2 n) (hw : Cond.methodLink own index y ∈ tb) (hn : As.length = n) (hav : av b = .ref (b + a) :: As) (hst : st = As.reverse ++ .ref (b + a) :: rest) (hroom : (rest.map fun v => v.category).sum ≤ 8) (hR : (k2_rm f9 l9).frames + 1 ≤ R.frames ∧ 8 + (maxL + 11) + (k2_rm f9 l9).locals ≤ R.locals) (hd : decode cc pc = .ok (.invokevirtual index, 3))
    (kk : ∀ (r : Int64) (M1 : Me), GN p l e R s m args below meth c D T b nL em (pc + 3) lv (.long r :: rest) M1 (k r M1)) : GN p l e R s m args below meth c D T b nL em pc lv st M (cal F1 k) := by
  intro r M9 h9
  obtain ⟨r1, M1, e1, h9⟩ := cal_some h9
  exact GG_callV (hk := hk) (hcl := hcl) (hc6 := hc6) hC (hM r1 M1 e1) hy hw hn hav (kd_lt hk (by omega)) ⟨rfl, rfl⟩ hst hroom hR ⟨Nat.zero_le _, Nat.zero_le _⟩ hd (kk r1 M1 r M9 h9)
theorem n_callVv {α : Type} {em : α → Option Value} {M : Me} {y : MethodName} {c2 : ByteArray} {maxL n index f9 l9 : Nat} {ret2 : Option FieldType} {av : Nat → List Value} {As rest : List Value} {F1 : Option (Unit × Me)} {k : Unit → Me → Option (α × Me)} {a ci N9 : Nat} {T9 : u_T} (hk : kd a = ci) (hcl : vwCl[ci]? = some (y.cls, T9, N9)) (hc6 : ci < 6) (hC : CX p s m args meth c cc nL own ret D T) (hM : CN l y c2 maxL ret2 (k2_rm f9 l9) eV av M F1) (hy : MV y c2 maxL ret2 n) (hw : Cond.methodLink own index y ∈ tb) (hn : As.length = n) (hav : av b = .ref (b + a) :: As) (hst : st = As.reverse ++ .ref (b + a) :: rest) (hroom : (rest.map fun v => v.category).sum ≤ 8) (hR : (k2_rm f9 l9).frames + 1 ≤ R.frames ∧ 8 + (maxL + 11) + (k2_rm f9 l9).locals ≤ R.locals) (hd : decode cc pc = .ok (.invokevirtual index, 3))
    (kk : ∀ (r : Unit) (M1 : Me), GN p l e R s m args below meth c D T b nL em (pc + 3) lv (rest) M1 (k r M1)) : GN p l e R s m args below meth c D T b nL em pc lv st M (cal F1 k) := by
  intro r M9 h9
  obtain ⟨r1, M1, e1, h9⟩ := cal_some h9
  exact GG_callV (hk := hk) (hcl := hcl) (hc6 := hc6) hC (hM r1 M1 e1) hy hw hn hav (kd_lt hk (by omega)) ⟨rfl, rfl⟩ hst hroom hR ⟨Nat.zero_le _, Nat.zero_le _⟩ hd (kk r1 M1 r M9 h9)
theorem GG_callS {M : MG} {y : MethodName} {c2 : ByteArray} {maxL n index : Nat} {ret2 : Option FieldType} {rm : Room} {mc ms cells slots : Nat} {av : Nat → List Value} {v : Option Value} {M' : MG} {As rest : List Value}  (hC : CX p s m args meth c cc nL own ret D T) (hM : Ct l y c2 maxL ret2 rm mc ms av M v M') (hy : MS y c2 maxL ret2 n) (hw : Cond.methodLink own index y ∈ tb) (hn : As.length = n) (hav : av b = As)  (hrm : rm.cells = mc ∧ rm.slots = ms) (hst : st = As.reverse ++ rest) (hroom : (rest.map fun v => v.category).sum ≤ 8) (hR : rm.frames + 1 ≤ R.frames ∧ 8 + (maxL + 11) + rm.locals ≤ R.locals) (hcs : cells + mc ≤ R.cells ∧ slots + ms ≤ R.slots) (hd : decode cc pc = .ok (.invokestatic index, 3))
    (kk : GG p l e R s m args below meth c D T b nL (cells + mc) (slots + ms) Q (pc + 3) lv (v.toList ++ rest) M') : GG p l e R s m args below meth c D T b nL cells slots Q pc lv st M := by
  intro H locs ls hl hP hS
  obtain ⟨hx, hb, hml, hown, hret, hlk, hts, hK, hN⟩ := hC
  obtain ⟨y1, y2, y3, y5⟩ := hy
  refine GG_cont (rest := rest) (a := As.toArray) (va_runS (As := As) (rest := rest) (ret := ret2) (bytes := c2) (n := n) ⟨hx, hb, hml, hown, hts⟩ (hM D T b) ⟨callB_of n hts (tb_good y1) rfl hrm.1 hrm.2 (hts _ y2) (hts _ hw) y5 hR, hts _ y3⟩ ⟨PC.blind, ?_⟩ rfl hn hl.1 hst (lv_room hroom) hd hcs) hl hS kk
  rw [← hav]
  exact PC.of hK hN hP
theorem n_callSi {α : Type} {em : α → Option Value} {M : Me} {y : MethodName} {c2 : ByteArray} {maxL n index f9 l9 : Nat} {ret2 : Option FieldType} {av : Nat → List Value} {As rest : List Value} {F1 : Option (Int32 × Me)} {k : Int32 → Me → Option (α × Me)}  (hC : CX p s m args meth c cc nL own ret D T) (hM : CN l y c2 maxL ret2 (k2_rm f9 l9) eI av M F1) (hy : MS y c2 maxL ret2 n) (hw : Cond.methodLink own index y ∈ tb) (hn : As.length = n) (hav : av b = As) (hst : st = As.reverse ++ rest) (hroom : (rest.map fun v => v.category).sum ≤ 8) (hR : (k2_rm f9 l9).frames + 1 ≤ R.frames ∧ 8 + (maxL + 11) + (k2_rm f9 l9).locals ≤ R.locals) (hd : decode cc pc = .ok (.invokestatic index, 3))
    (kk : ∀ (r : Int32) (M1 : Me), GN p l e R s m args below meth c D T b nL em (pc + 3) lv (.int r :: rest) M1 (k r M1)) : GN p l e R s m args below meth c D T b nL em pc lv st M (cal F1 k) := by
  intro r M9 h9
  obtain ⟨r1, M1, e1, h9⟩ := cal_some h9
  exact GG_callS hC (hM r1 M1 e1) hy hw hn hav ⟨rfl, rfl⟩ hst hroom hR ⟨Nat.zero_le _, Nat.zero_le _⟩ hd (kk r1 M1 r M9 h9)
theorem n_callSl {α : Type} {em : α → Option Value} {M : Me} {y : MethodName} {c2 : ByteArray} {maxL n index f9 l9 : Nat} {ret2 : Option FieldType} {av : Nat → List Value} {As rest : List Value} {F1 : Option (Int64 × Me)} {k : Int64 → Me → Option (α × Me)}  (hC : CX p s m args meth c cc nL own ret D T) (hM : CN l y c2 maxL ret2 (k2_rm f9 l9) eL av M F1) (hy : MS y c2 maxL ret2 n) (hw : Cond.methodLink own index y ∈ tb) (hn : As.length = n) (hav : av b = As) (hst : st = As.reverse ++ rest) (hroom : (rest.map fun v => v.category).sum ≤ 8) (hR : (k2_rm f9 l9).frames + 1 ≤ R.frames ∧ 8 + (maxL + 11) + (k2_rm f9 l9).locals ≤ R.locals) (hd : decode cc pc = .ok (.invokestatic index, 3))
    (kk : ∀ (r : Int64) (M1 : Me), GN p l e R s m args below meth c D T b nL em (pc + 3) lv (.long r :: rest) M1 (k r M1)) : GN p l e R s m args below meth c D T b nL em pc lv st M (cal F1 k) := by
  intro r M9 h9
  obtain ⟨r1, M1, e1, h9⟩ := cal_some h9
  exact GG_callS hC (hM r1 M1 e1) hy hw hn hav ⟨rfl, rfl⟩ hst hroom hR ⟨Nat.zero_le _, Nat.zero_le _⟩ hd (kk r1 M1 r M9 h9)
theorem n_callSv {α : Type} {em : α → Option Value} {M : Me} {y : MethodName} {c2 : ByteArray} {maxL n index f9 l9 : Nat} {ret2 : Option FieldType} {av : Nat → List Value} {As rest : List Value} {F1 : Option (Unit × Me)} {k : Unit → Me → Option (α × Me)}  (hC : CX p s m args meth c cc nL own ret D T) (hM : CN l y c2 maxL ret2 (k2_rm f9 l9) eV av M F1) (hy : MS y c2 maxL ret2 n) (hw : Cond.methodLink own index y ∈ tb) (hn : As.length = n) (hav : av b = As) (hst : st = As.reverse ++ rest) (hroom : (rest.map fun v => v.category).sum ≤ 8) (hR : (k2_rm f9 l9).frames + 1 ≤ R.frames ∧ 8 + (maxL + 11) + (k2_rm f9 l9).locals ≤ R.locals) (hd : decode cc pc = .ok (.invokestatic index, 3))
    (kk : ∀ (r : Unit) (M1 : Me), GN p l e R s m args below meth c D T b nL em (pc + 3) lv (rest) M1 (k r M1)) : GN p l e R s m args below meth c D T b nL em pc lv st M (cal F1 k) := by
  intro r M9 h9
  obtain ⟨r1, M1, e1, h9⟩ := cal_some h9
  exact GG_callS hC (hM r1 M1 e1) hy hw hn hav ⟨rfl, rfl⟩ hst hroom hR ⟨Nat.zero_le _, Nat.zero_le _⟩ hd (kk r1 M1 r M9 h9)
theorem GG_callN {M : MG} {y : MethodName} {c2 : ByteArray} {maxL n index : Nat} {ret2 : Option FieldType} {rm : Room} {mc ms cells slots : Nat} {av : Nat → List Value} {v : Option Value} {M' : MG} {As rest : List Value}  (hC : CX p s m args meth c cc nL own ret D T) (hM : Ct l y c2 maxL ret2 rm mc ms av M v M') (hy : MS y c2 maxL ret2 n) {host : String} (hw : Cond.methodLinkNest own index y host ∈ lw_tbl) (hn : As.length = n) (hav : av b = As)  (hrm : rm.cells = mc ∧ rm.slots = ms) (hst : st = As.reverse ++ rest) (hroom : (rest.map fun v => v.category).sum ≤ 8) (hR : rm.frames + 1 ≤ R.frames ∧ 8 + (maxL + 11) + rm.locals ≤ R.locals) (hcs : cells + mc ≤ R.cells ∧ slots + ms ≤ R.slots) (hd : decode cc pc = .ok (.invokestatic index, 3))
    (kk : GG p l e R s m args below meth c D T b nL (cells + mc) (slots + ms) Q (pc + 3) lv (v.toList ++ rest) M') : GG p l e R s m args below meth c D T b nL cells slots Q pc lv st M := by
  intro H locs ls hl hP hS
  obtain ⟨hx, hb, hml, hown, hret, hlk, hts, hK, hN⟩ := hC
  obtain ⟨y1, y2, y3, y5⟩ := hy
  refine GG_cont (rest := rest) (a := As.toArray) (va_runSN (As := As) (rest := rest) (ret := ret2) (bytes := c2) (n := n) (host := host) ⟨hx, hb, hml, hown, hts⟩ (hM D T b) ⟨va_cnB n hts (tb_good y1) rfl hrm.1 hrm.2 (hN _ _ _ _ hw) (hts _ y2) y5 hR, hts _ y3, trivial⟩ ⟨PC.blind, ?_⟩ rfl hn hl.1 hst (lv_room hroom) hd hcs) hl hS kk
  rw [← hav]
  exact PC.of hK hN hP
theorem n_callNi {α : Type} {em : α → Option Value} {M : Me} {y : MethodName} {c2 : ByteArray} {maxL n index f9 l9 : Nat} {ret2 : Option FieldType} {av : Nat → List Value} {As rest : List Value} {F1 : Option (Int32 × Me)} {k : Int32 → Me → Option (α × Me)}  (hC : CX p s m args meth c cc nL own ret D T) (hM : CN l y c2 maxL ret2 (k2_rm f9 l9) eI av M F1) (hy : MS y c2 maxL ret2 n) {host : String} (hw : Cond.methodLinkNest own index y host ∈ lw_tbl) (hn : As.length = n) (hav : av b = As) (hst : st = As.reverse ++ rest) (hroom : (rest.map fun v => v.category).sum ≤ 8) (hR : (k2_rm f9 l9).frames + 1 ≤ R.frames ∧ 8 + (maxL + 11) + (k2_rm f9 l9).locals ≤ R.locals) (hd : decode cc pc = .ok (.invokestatic index, 3))
    (kk : ∀ (r : Int32) (M1 : Me), GN p l e R s m args below meth c D T b nL em (pc + 3) lv (.int r :: rest) M1 (k r M1)) : GN p l e R s m args below meth c D T b nL em pc lv st M (cal F1 k) := by
  intro r M9 h9
  obtain ⟨r1, M1, e1, h9⟩ := cal_some h9
  exact GG_callN hC (hM r1 M1 e1) hy hw hn hav ⟨rfl, rfl⟩ hst hroom hR ⟨Nat.zero_le _, Nat.zero_le _⟩ hd (kk r1 M1 r M9 h9)
theorem n_callNl {α : Type} {em : α → Option Value} {M : Me} {y : MethodName} {c2 : ByteArray} {maxL n index f9 l9 : Nat} {ret2 : Option FieldType} {av : Nat → List Value} {As rest : List Value} {F1 : Option (Int64 × Me)} {k : Int64 → Me → Option (α × Me)}  (hC : CX p s m args meth c cc nL own ret D T) (hM : CN l y c2 maxL ret2 (k2_rm f9 l9) eL av M F1) (hy : MS y c2 maxL ret2 n) {host : String} (hw : Cond.methodLinkNest own index y host ∈ lw_tbl) (hn : As.length = n) (hav : av b = As) (hst : st = As.reverse ++ rest) (hroom : (rest.map fun v => v.category).sum ≤ 8) (hR : (k2_rm f9 l9).frames + 1 ≤ R.frames ∧ 8 + (maxL + 11) + (k2_rm f9 l9).locals ≤ R.locals) (hd : decode cc pc = .ok (.invokestatic index, 3))
    (kk : ∀ (r : Int64) (M1 : Me), GN p l e R s m args below meth c D T b nL em (pc + 3) lv (.long r :: rest) M1 (k r M1)) : GN p l e R s m args below meth c D T b nL em pc lv st M (cal F1 k) := by
  intro r M9 h9
  obtain ⟨r1, M1, e1, h9⟩ := cal_some h9
  exact GG_callN hC (hM r1 M1 e1) hy hw hn hav ⟨rfl, rfl⟩ hst hroom hR ⟨Nat.zero_le _, Nat.zero_le _⟩ hd (kk r1 M1 r M9 h9)
theorem n_callNv {α : Type} {em : α → Option Value} {M : Me} {y : MethodName} {c2 : ByteArray} {maxL n index f9 l9 : Nat} {ret2 : Option FieldType} {av : Nat → List Value} {As rest : List Value} {F1 : Option (Unit × Me)} {k : Unit → Me → Option (α × Me)}  (hC : CX p s m args meth c cc nL own ret D T) (hM : CN l y c2 maxL ret2 (k2_rm f9 l9) eV av M F1) (hy : MS y c2 maxL ret2 n) {host : String} (hw : Cond.methodLinkNest own index y host ∈ lw_tbl) (hn : As.length = n) (hav : av b = As) (hst : st = As.reverse ++ rest) (hroom : (rest.map fun v => v.category).sum ≤ 8) (hR : (k2_rm f9 l9).frames + 1 ≤ R.frames ∧ 8 + (maxL + 11) + (k2_rm f9 l9).locals ≤ R.locals) (hd : decode cc pc = .ok (.invokestatic index, 3))
    (kk : ∀ (r : Unit) (M1 : Me), GN p l e R s m args below meth c D T b nL em (pc + 3) lv (rest) M1 (k r M1)) : GN p l e R s m args below meth c D T b nL em pc lv st M (cal F1 k) := by
  intro r M9 h9
  obtain ⟨r1, M1, e1, h9⟩ := cal_some h9
  exact GG_callN hC (hM r1 M1 e1) hy hw hn hav ⟨rfl, rfl⟩ hst hroom hR ⟨Nat.zero_le _, Nat.zero_le _⟩ hd (kk r1 M1 r M9 h9)
theorem CN.of {β : Type} {l : Launch} {y : MethodName} {cc : ByteArray} {maxL : Nat} {ret : Option FieldType} {f9 l9 : Nat} {em : β → Option Value} {av : Nat → List Value} {M : Me} {F : Option (β × Me)} (own : String) (lv : Nat → List (Nat × Value)) (hy : plainName y.cls = true) (ho : y.cls = own) (hlen : ∀ b, (lg_sl (av b)).length ≤ maxL) (hlv : ∀ b, lv_args 0 (av b) = lv b)
    (body : ∀ (p : Program) (e : Env) (s : State) (m : MethodId) (args : Array Value) (below : List Frame) (meth : Method) (c : Code) (D : va_G) (T : Nat → ClassId) (b : Nat), CX p s m args meth c cc maxL own ret D T → GN p l e (k2_rm f9 l9) s m args below meth c D T b maxL em 0 (lv b) [] M F) : CN l y cc maxL ret (k2_rm f9 l9) em av M F := by
  intro r M' hF D T b
  refine Met.ofW (cc := cc) (maxL := maxL) (ret := ret) hy rfl ?_
  intro p e s m args below meth c s₁ B hml hv
  obtain ⟨rfl, hP, hK, hN⟩ := hv
  have hts := atoms_spec (ws := .code y cc maxL ret :: tb) B.pre
  have hown : s.vm.findClass own = some m.cls := by rw [← ho]; exact findClass_of_methodNamed B.named
  have hl := lv_entry (av b) (n := maxL) (hlen b)
  rw [lg_entry_eq]
  generalize (lg_sl (av b) ++ List.replicate (maxL - (lg_sl (av b)).length) Slot.unset).toArray = ls at hl ⊢
  rw [hlv b] at hl
  exact body p e s m _ below meth c D T b ⟨B.exec, B.bytes, hml, hown, B.returns, B.notSynchronized, fun w h => hts w (List.mem_cons_of_mem _ h), hK, hN⟩ r M' hF s.heap [] ls hl hP va_S.rf
/-- fewer locals are known -/
theorem GN.sub {α : Type} {em : α → Option Value} {M : Me} {F : Option (α × Me)} {lv2 : List (Nat × Value)} (ks : List Nat) (hl2 : lv_pick lv ks = lv2) (k : GN p l e R s m args below meth c D T b nL em pc lv2 st M F) : GN p l e R s m args below meth c D T b nL em pc lv st M F := fun r M9 h9 H locs ls hl hP hS => k r M9 h9 H locs ls (lv_sub hl ks hl2) hP hS
theorem GN.none {α : Type} {em : α → Option Value} {M : Me} : GN p l e R s m args below meth c D T b nL em pc lv st M none := fun r M9 h9 => by cases h9
end GB
