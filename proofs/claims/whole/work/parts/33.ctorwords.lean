def sz (a : Nat) : Nat := if kd a < 6 then nfl (kd a) else ln a
def sl : Nat → Nat
  | 0 => 0
  | n + 1 => sl n + sz n
theorem sl_mono {a b : Nat} (h : a ≤ b) : sl a ≤ sl b := by
  induction b with
  | zero => rw [show a = 0 by omega]; exact Nat.le_refl _
  | succ b ih =>
    rcases Nat.lt_or_ge b a with q | q
    · rw [show a = b + 1 by omega]; exact Nat.le_refl _
    · exact Nat.le_trans (ih q) (Nat.le_add_right _ _)
def bndG {γ : Type} (M : MG) (A : MG → Option γ) : Option γ := A M
def galO {γ : Type} (ci lim : Nat) (M : MG) (A : Nat → MG → Option γ) : Option γ := if kd M.2.2.2 = ci ∧ M.2.2.2 < lim then A M.2.2.2 (al M) else none
def galA {γ : Type} (ci N lim : Nat) (M : MG) (A : Nat → MG → Option γ) : Option γ := if kd M.2.2.2 = ci ∧ ln M.2.2.2 = N ∧ M.2.2.2 < lim then A M.2.2.2 (al M) else none
def gR {γ : Type} (q : Option Nat) (ci : Nat) (M : MG) (A : Nat → Option γ) : Option γ := match q with
  | none => none
  | some z => if kd z = ci ∧ z < M.2.2.2 then A z else none
def calC {γ : Type} (F : Option (Unit × MG)) (lim' lim : Nat) (k : MG → Option γ) : Option γ := match F with
  | none => none
  | some q => if q.2.2.2.2 = lim' ∧ lim' ≤ lim then k q.2 else none
def retC (lim : Nat) (M : MG) : Option (Unit × MG) := if M.2.2.2 = lim then some ((), M) else none
section CG
variable {p : Program} {l : Launch} {e : Env} {R : Room} {s : State} {m : MethodId} {args : Array Value} {below : List Frame} {meth : Method} {c : Code} {D : va_G} {T : Nat → ClassId} {b nL : Nat} {cc : ByteArray} {own : String} {ret : Option FieldType} {Q : State → Prop} {pc : Nat} {lv : List (Nat × Value)} {st : List Value}
def GC (p : Program) (l : Launch) (e : Env) (R : Room) (s : State) (m : MethodId) (args : Array Value) (below : List Frame) (meth : Method) (c : Code) (D : va_G) (T : Nat → ClassId) (b nL : Nat) (n0 lim : Nat) (pc : Nat) (lv : List (Nat × Value)) (st : List Value) (M : MG) (F : Option (Unit × MG)) : Prop :=
  ∀ (r : Unit) (M' : MG), F = some (r, M') → n0 ≤ M.2.2.2 → GG p l e R s m args below meth c D T b nL (M.2.2.2 - n0) (sl M.2.2.2 - sl n0) (MQ below (QC D T b none M') args s (lim - n0) (sl lim - sl n0) (fun q => b ≤ q)) pc lv st M
def CXA (p : Program) (R : Room) (s : State) (m : MethodId) (args : Array Value) (meth : Method) (c : Code) (cc : ByteArray) (nL : Nat) (own : String) (D : va_G) (T : Nat → ClassId) (b n0 lim : Nat) : Prop := CX p s m args meth c cc nL own none D T ∧ AO s ∧ s.heap.size = b + n0 ∧ meth.name = "<init>" ∧ R.cells = lim - n0 ∧ R.slots = sl lim - sl n0
theorem GC.none {n0 lim : Nat} {M : MG} : GC p l e R s m args below meth c D T b nL n0 lim pc lv st M none := fun r M9 h9 => by cases h9
theorem GC.sub {n0 lim : Nat} {M : MG} {F : Option (Unit × MG)} {lv2 : List (Nat × Value)} (ks : List Nat) (hl2 : lv_pick lv ks = lv2) (k : GC p l e R s m args below meth c D T b nL n0 lim pc lv2 st M F) : GC p l e R s m args below meth c D T b nL n0 lim pc lv st M F := fun r M9 h9 hnn H locs ls hl hP hS => k r M9 h9 hnn H locs ls (lv_sub hl ks hl2) hP hS
theorem c_iconst {n0 lim : Nat} {M : MG} {F : Option (Unit × MG)} (hC : CX p s m args meth c cc nL own ret D T) {n : Int} (v : Int32) (hv : Int32.ofInt n = v) (hd : decode cc pc = .ok (.iconst n, 1)) (k : GC p l e R s m args below meth c D T b nL n0 lim (pc + 1) lv (.int v :: st) M F) : GC p l e R s m args below meth c D T b nL n0 lim pc lv (st) M F := fun r M9 h9 hnn H locs ls hl hP hS => lv_iconst hC.1 hC.2.1 hd hv (k r M9 h9 hnn H locs ls hl hP hS)
theorem c_bipush {n0 lim : Nat} {M : MG} {F : Option (Unit × MG)} (hC : CX p s m args meth c cc nL own ret D T) {n : Int} (v : Int32) (hv : (Int8.ofInt n).toInt32 = v) (hd : decode cc pc = .ok (.bipush n, 2)) (k : GC p l e R s m args below meth c D T b nL n0 lim (pc + 2) lv (.int v :: st) M F) : GC p l e R s m args below meth c D T b nL n0 lim pc lv (st) M F := fun r M9 h9 hnn H locs ls hl hP hS => lv_bipush hC.1 hC.2.1 hd hv (k r M9 h9 hnn H locs ls hl hP hS)
theorem c_sipush {n0 lim : Nat} {M : MG} {F : Option (Unit × MG)} (hC : CX p s m args meth c cc nL own ret D T) {n : Int} (v : Int32) (hv : (Int16.ofInt n).toInt32 = v) (hd : decode cc pc = .ok (.sipush n, 3)) (k : GC p l e R s m args below meth c D T b nL n0 lim (pc + 3) lv (.int v :: st) M F) : GC p l e R s m args below meth c D T b nL n0 lim pc lv (st) M F := fun r M9 h9 hnn H locs ls hl hP hS => lv_sipush hC.1 hC.2.1 hd hv (k r M9 h9 hnn H locs ls hl hP hS)
theorem c_lconst {n0 lim : Nat} {M : MG} {F : Option (Unit × MG)} (hC : CX p s m args meth c cc nL own ret D T) {n : Fin 2} (v : Int64) (hv : Int64.ofNat (n : Nat) = v) (hd : decode cc pc = .ok (.lconst n, 1)) (k : GC p l e R s m args below meth c D T b nL n0 lim (pc + 1) lv (.long v :: st) M F) : GC p l e R s m args below meth c D T b nL n0 lim pc lv (st) M F := fun r M9 h9 hnn H locs ls hl hP hS => lv_lconst hC.1 hC.2.1 hd hv (k r M9 h9 hnn H locs ls hl hP hS)
theorem c_iload_n {n0 lim : Nat} {M : MG} {F : Option (Unit × MG)} (hC : CX p s m args meth c cc nL own ret D T) {i : Fin 4} {x : Int32} (j : Nat) (hj : lv[j]? = some ((i : Nat), .int x)) (hd : decode cc pc = .ok (.iload_n i, 1)) (k : GC p l e R s m args below meth c D T b nL n0 lim (pc + 1) lv (.int x :: st) M F) : GC p l e R s m args below meth c D T b nL n0 lim pc lv (st) M F := fun r M9 h9 hnn H locs ls hl hP hS => lv_iload_n hC.1 hC.2.1 hd rfl (lv_at hl j hj) (k r M9 h9 hnn H locs ls hl hP hS)
theorem c_aload_n {n0 lim : Nat} {M : MG} {F : Option (Unit × MG)} (hC : CX p s m args meth c cc nL own ret D T) {i : Fin 4} {x : Nat} (j : Nat) (hj : lv[j]? = some ((i : Nat), .ref x)) (hd : decode cc pc = .ok (.aload_n i, 1)) (k : GC p l e R s m args below meth c D T b nL n0 lim (pc + 1) lv (.ref x :: st) M F) : GC p l e R s m args below meth c D T b nL n0 lim pc lv (st) M F := fun r M9 h9 hnn H locs ls hl hP hS => lv_aload_n hC.1 hC.2.1 hd rfl (lv_at hl j hj) (k r M9 h9 hnn H locs ls hl hP hS)
theorem c_istore_n {n0 lim : Nat} {M : MG} {F : Option (Unit × MG)} (hC : CX p s m args meth c cc nL own ret D T) {kk : Fin 4} {i : Nat} (hi : (kk : Nat) = i) {x : Int32} (lv2 : List (Nat × Value)) (hn : i < nL) (hv : (i, Value.int x) :: lv.filter (fun q => !(q.1 == i) && !(q.1 + 1 == i && q.2.category == 2)) = lv2) (hd : decode cc pc = .ok (.istore_n kk, 1)) (k : GC p l e R s m args below meth c D T b nL n0 lim (pc + 1) lv2 st M F) : GC p l e R s m args below meth c D T b nL n0 lim pc lv (.int x :: st) M F := fun r M9 h9 hnn H locs ls hl hP hS => lv_istore_n hC.1 hC.2.1 hd hi hl hn hv (fun ls hl => k r M9 h9 hnn H locs ls hl hP hS)
theorem c_iinc {n0 lim : Nat} {M : MG} {F : Option (Unit × MG)} (hC : CX p s m args meth c cc nL own ret D T) {i : Nat} {n : Int} {x : Int32} (v : Int32) (lv2 : List (Nat × Value)) (j : Nat) (hj : lv[j]? = some (i, .int x)) (hv : x + Int32.ofInt n = v) (hn : i < nL) (hl2 : (i, Value.int v) :: lv.filter (fun q => !(q.1 == i) && !(q.1 + 1 == i && q.2.category == 2)) = lv2) (hd : decode cc pc = .ok (.iinc i n, 3)) (k : GC p l e R s m args below meth c D T b nL n0 lim (pc + 3) lv2 st M F) : GC p l e R s m args below meth c D T b nL n0 lim pc lv st M F := fun r M9 h9 hnn H locs ls hl hP hS => lv_iinc hC.1 hC.2.1 hd hl hj hv hn hl2 (fun ls hl => k r M9 h9 hnn H locs ls hl hP hS)
theorem c_iincB {n0 lim : Nat} {M : MG} {F : Int32 → Option (Unit × MG)} (hC : CX p s m args meth c cc nL own ret D T) {i : Nat} {n : Int} {x : Int32} (w : Int32) (hw : Int32.ofInt n = w) (lv2 : Int32 → List (Nat × Value)) (j : Nat) (hj : lv[j]? = some (i, .int x)) (hn : i < nL) (hl2 : ∀ v, (i, Value.int v) :: lv.filter (fun q => !(q.1 == i) && !(q.1 + 1 == i && q.2.category == 2)) = lv2 v) (hd : decode cc pc = .ok (.iinc i n, 3)) (k : ∀ v : Int32, GC p l e R s m args below meth c D T b nL n0 lim (pc + 3) (lv2 v) st M (F v)) : GC p l e R s m args below meth c D T b nL n0 lim pc lv st M (bndV (x + w) F) := c_iinc hC (x + w) (lv2 _) j hj (by rw [hw]) hn (hl2 _) hd (k _)
theorem c_dup {n0 lim : Nat} {M : MG} {F : Option (Unit × MG)} (hC : CX p s m args meth c cc nL own ret D T) {v : Value} (hv : v.category = 1) (hd : decode cc pc = .ok (.dup, 1)) (k : GC p l e R s m args below meth c D T b nL n0 lim (pc + 1) lv (v :: v :: st) M F) : GC p l e R s m args below meth c D T b nL n0 lim pc lv (v :: st) M F := fun r M9 h9 hnn H locs ls hl hP hS => lv_dup hC.1 hC.2.1 hd hv (k r M9 h9 hnn H locs ls hl hP hS)
theorem c_goto {n0 lim : Nat} {M : MG} {F : Option (Unit × MG)} (hC : CX p s m args meth c cc nL own ret D T) {off : Int} {tgt : Nat} (ht : (pc : Int) + off = (tgt : Int)) (hd : decode cc pc = .ok (.goto off, 3)) (k : GC p l e R s m args below meth c D T b nL n0 lim (tgt) lv (st) M F) : GC p l e R s m args below meth c D T b nL n0 lim pc lv (st) M F := fun r M9 h9 hnn H locs ls hl hP hS => lv_goto hC.1 hC.2.1 hd ht (k r M9 h9 hnn H locs ls hl hP hS)
theorem c_icmp_ge {n0 lim : Nat} {M : MG} {A B : Option (Unit × MG)} (hC : CX p s m args meth c cc nL own ret D T) {x y : Int32} {off : Int} (tgt : Nat) (hd : decode cc pc = .ok (.if_icmp .ge off, 3)) (ht : (pc : Int) + off = (tgt : Int)) (k1 : GC p l e R s m args below meth c D T b nL n0 lim tgt lv st M A) (k2 : GC p l e R s m args below meth c D T b nL n0 lim (pc + 3) lv st M B) : GC p l e R s m args below meth c D T b nL n0 lim pc lv (.int y :: .int x :: st) M (if y ≤ x then A else B) := fun r M9 h9 hnn H locs ls hl hP hS => lv_icmp_ge hC.1 hC.2.1 hd ht (fun q => k1 r M9 (by rw [if_pos q] at h9; exact h9) hnn H locs ls hl hP hS) (fun q => k2 r M9 (by rw [if_neg q] at h9; exact h9) hnn H locs ls hl hP hS)
theorem c_loop {σ : Type} {n0 lim hd : Nat} (lvf : σ → List (Nat × Value)) (mf : σ → MG) {g : (σ → Option (Unit × MG)) → σ → Option (Unit × MG)} (h : ∀ kb : σ → Option (Unit × MG), (∀ x, GC p l e R s m args below meth c D T b nL n0 lim hd (lvf x) [] (mf x) (kb x)) → ∀ x, GC p l e R s m args below meth c D T b nL n0 lim hd (lvf x) [] (mf x) (g kb x)) (n : Nat) : ∀ x : σ, GC p l e R s m args below meth c D T b nL n0 lim hd (lvf x) [] (mf x) (lp g n x) := by
  induction n with
  | zero => exact fun x => GC.none
  | succ n ih => exact fun x => h (lp g n) ih x
theorem c_obj {n0 lim index : Nat} {M : MG} {F : Option (Unit × MG)} {a : Nat} (hA : CXA p R s m args meth c cc nL own D T b n0 lim) (hw : Cond.methodLink own index objectInit ∈ tb) (w2 : Cond.instanceMethod objectInit ∈ tb) (w3 : Cond.code objectInit ⟨#[0xb1]⟩ 1 none ∈ tb) (hf : 1 ≤ R.frames) (hlo : (st.map fun v => v.category).sum + 12 ≤ R.locals) (hd : decode cc pc = .ok (.invokespecial index, 3)) (k : GC p l e R s m args below meth c D T b nL n0 lim (pc + 3) lv st M F) : GC p l e R s m args below meth c D T b nL n0 lim pc lv (.ref (b + a) :: st) M F := by
  intro r M9 h9 hnn H locs ls hl hP hS
  have hC := hA.1
  have hts := hC.2.2.2.2.2.2.1
  refine W.objInit hC.1 hC.2.1 hC.2.2.2.1 (hts _ hw) (hts _ w2) (hts _ w3) rfl (hl.1.trans hC.2.2.1.symm) rfl hd hf (by simpa [JFrame.monitorRoom] using hlo) ?_
  exact k r M9 h9 hnn H locs ls hl hP hS
theorem c_new {ci N index n0 lim : Nat} {M : MG} {A : Nat → MG → Option (Unit × MG)} {C : String} {Tt : u_T} (hA : CXA p R s m args meth c cc nL own D T b n0 lim) (hCL : CL ci C Tt N) (w1 : Cond.classLink own index C ∈ tb) (w2 : Cond.instantiable C N ∈ tb) (w3 : Cond.initialized C ∈ tb) (hd : decode cc pc = .ok (.new index, 3)) (k : ∀ (a : Nat) (M1 : MG), kd a = ci → M1.2.2.2 = a + 1 → a = M.2.2.2 → GC p l e R s m args below meth c D T b nL n0 lim (pc + 3) lv (.ref (b + a) :: st) M1 (A a M1)) : GC p l e R s m args below meth c D T b nL n0 lim pc lv st M (galO ci lim M A) := by
  intro r M9 h9 hnn
  obtain ⟨hC, hAO, hb0, hin, hRc, hRs⟩ := hA
  unfold galO at h9
  by_cases q : kd M.2.2.2 = ci ∧ M.2.2.2 < lim
  · rw [if_pos q] at h9
    have hsz : sl (M.2.2.2 + 1) = sl M.2.2.2 + N := by
      show sl M.2.2.2 + sz M.2.2.2 = _
      unfold sz
      rw [q.1, if_pos hCL.2.2.2.1, hCL.2.2.1]
    have h1 := sl_mono hnn
    have h2 := sl_mono (show M.2.2.2 + 1 ≤ lim by omega)
    refine GG_new hC hCL hb0 (by omega) q.1 w1 w2 w3 (by omega) (by omega) hd ?_
    have e1 : M.2.2.2 - n0 + 1 = (al M).2.2.2 - n0 := by
      show _ = M.2.2.2 + 1 - n0
      omega
    have e2 : sl M.2.2.2 - sl n0 + N = sl (al M).2.2.2 - sl n0 := by
      show _ = sl (M.2.2.2 + 1) - sl n0
      omega
    rw [e1, e2]
    exact k M.2.2.2 (al M) q.1 rfl rfl r M9 h9 (Nat.le_succ_of_le hnn)
  · rw [if_neg q] at h9
    cases h9
theorem c_newa {ci N n0 lim : Nat} {M : MG} {A : Nat → MG → Option (Unit × MG)} {ty : FieldType} {atype : ArrayType} {n : Int32} (hA : CXA p R s m args meth c cc nL own D T b n0 lim) (hc : (ci = 6 ∧ ty = .byte) ∨ (ci = 7 ∧ ty = .int) ∨ (ci = 8 ∧ ty = .boolean)) (hty : newarray.typeOf atype = ty) (hN : n.toNatClampNeg = N) (hn0 : ¬ n < 0) (w1 : Cond.arrayClass ty ∈ tb) (hby : N * componentBytes ty ≤ 536870912) (hd : decode cc pc = .ok (.newarray atype, 2)) (k : ∀ (a : Nat) (M1 : MG), kd a = ci → M1.2.2.2 = a + 1 → a = M.2.2.2 → GC p l e R s m args below meth c D T b nL n0 lim (pc + 2) lv (.ref (b + a) :: st) M1 (A a M1)) : GC p l e R s m args below meth c D T b nL n0 lim pc lv (.int n :: st) M (galA ci N lim M A) := by
  intro r M9 h9 hnn
  obtain ⟨hC, hAO, hb0, hin, hRc, hRs⟩ := hA
  unfold galA at h9
  by_cases q : kd M.2.2.2 = ci ∧ ln M.2.2.2 = N ∧ M.2.2.2 < lim
  · rw [if_pos q] at h9
    have hsz : sl (M.2.2.2 + 1) = sl M.2.2.2 + N := by
      show sl M.2.2.2 + sz M.2.2.2 = _
      unfold sz
      rw [q.1, if_neg (by omega), q.2.1]
    have h1 := sl_mono hnn
    have h2 := sl_mono (show M.2.2.2 + 1 ≤ lim by omega)
    refine GG_newa hC hb0 (by omega) q.1 hc hty hN hn0 q.2.1 w1 hby (by omega) (by omega) hd ?_
    have e1 : M.2.2.2 - n0 + 1 = (al M).2.2.2 - n0 := by
      show _ = M.2.2.2 + 1 - n0
      omega
    have e2 : sl M.2.2.2 - sl n0 + N = sl (al M).2.2.2 - sl n0 := by
      show _ = sl (M.2.2.2 + 1) - sl n0
      omega
    rw [e1, e2]
    exact k M.2.2.2 (al M) q.1 rfl rfl r M9 h9 (Nat.le_succ_of_le hnn)
  · rw [if_neg q] at h9
    cases h9
theorem c_anew {ci N n0 lim index : Nat} {M : MG} {A : Nat → MG → Option (Unit × MG)} {C : String} {n : Int32} (hA : CXA p R s m args meth c cc nL own D T b n0 lim) (hAO : va_AO C s) (hc : (ci = 9 ∧ C = RX0) ∨ (ci = 10 ∧ C = RX2)) (hN : n.toNatClampNeg = N) (hn0 : ¬ n < 0) (w1 : Cond.classLink own index C ∈ tb) (hby : N * 4 ≤ 536870912) (hd : decode cc pc = .ok (.anewarray index, 3)) (k : ∀ (a : Nat) (M1 : MG), kd a = ci → M1.2.2.2 = a + 1 → a = M.2.2.2 → GC p l e R s m args below meth c D T b nL n0 lim (pc + 3) lv (.ref (b + a) :: st) M1 (A a M1)) : GC p l e R s m args below meth c D T b nL n0 lim pc lv (.int n :: st) M (galA ci N lim M A) := by
  intro r M9 h9 hnn
  obtain ⟨hC, _, hb0, hin, hRc, hRs⟩ := hA
  unfold galA at h9
  by_cases q : kd M.2.2.2 = ci ∧ ln M.2.2.2 = N ∧ M.2.2.2 < lim
  · rw [if_pos q] at h9
    have hsz : sl (M.2.2.2 + 1) = sl M.2.2.2 + N := by
      show sl M.2.2.2 + sz M.2.2.2 = _
      unfold sz
      rw [q.1, if_neg (by omega), q.2.1]
    have h1 := sl_mono hnn
    have h2 := sl_mono (show M.2.2.2 + 1 ≤ lim by omega)
    refine GG_anew hC hAO hb0 (by omega) q.1 hc hN hn0 q.2.1 w1 hby (by omega) (by omega) hd ?_
    have e1 : M.2.2.2 - n0 + 1 = (al M).2.2.2 - n0 := by
      show _ = M.2.2.2 + 1 - n0
      omega
    have e2 : sl M.2.2.2 - sl n0 + N = sl (al M).2.2.2 - sl n0 := by
      show _ = sl (M.2.2.2 + 1) - sl n0
      omega
    rw [e1, e2]
    exact k M.2.2.2 (al M) q.1 rfl rfl r M9 h9 (Nat.le_succ_of_le hnn)
  · rw [if_neg q] at h9
    cases h9
theorem c_putR {ci N index n0 lim q : Nat} {M : MG} {A : MG → Option (Unit × MG)} {C : String} {Tt : u_T} (hA : CXA p R s m args meth c cc nL own D T b n0 lim) (hCL : CL ci C Tt N) {a : Nat} (ha : n0 ≤ M.2.2.2 → a < M.2.2.2) (hk : kd a = ci) (k : Nat) (hkN : k < N) (hn : (Tt k).1 = C) (hoc : C = own) (hty : (∃ z, tyf ci k = .object z) ∨ ∃ z, tyf ci k = .array z) (hfin : (Tt k).2.2.2 = true) (hw : Cond.fieldLink own index C (Tt k).2.1 (Tt k).2.2.1 ∈ tb) (hd : decode cc pc = .ok (.putfield index, 3)) (kk : ∀ M1 : MG, M1.2.2.2 = M.2.2.2 → GC p l e R s m args below meth c D T b nL n0 lim (pc + 3) lv st M1 (A M1)) : GC p l e R s m args below meth c D T b nL n0 lim pc lv (.ref (b + q) :: .ref (b + a) :: st) M (bndG (sGR M a k (some q)) A) := fun r M9 h9 hnn => GG_putR hA.1 hA.2.2.2.1 hCL (ha hnn) hk k hkN hn hoc hty hfin hw hd (kk (sGR M a k (some q)) rfl r M9 h9 hnn)
theorem c_putI {ci N index n0 lim : Nat} {M : MG} {A : MG → Option (Unit × MG)} {x : Int32} {C : String} {Tt : u_T} (hA : CXA p R s m args meth c cc nL own D T b n0 lim) (hCL : CL ci C Tt N) {a : Nat} (ha : n0 ≤ M.2.2.2 → a < M.2.2.2) (hk : kd a = ci) (k : Nat) (hkN : k < N) (hn : (Tt k).1 = C) (hty : tyf ci k = .int) (hfin : (Tt k).2.2.2 = false) (hw : Cond.fieldLink own index C (Tt k).2.1 (Tt k).2.2.1 ∈ tb) (hd : decode cc pc = .ok (.putfield index, 3)) (kk : ∀ M1 : MG, M1.2.2.2 = M.2.2.2 → GC p l e R s m args below meth c D T b nL n0 lim (pc + 3) lv st M1 (A M1)) : GC p l e R s m args below meth c D T b nL n0 lim pc lv (.int x :: .ref (b + a) :: st) M (bndG (sGI M a k x) A) := fun r M9 h9 hnn => GG_putI hA.1 hCL (ha hnn) hk k hkN hn hty hfin hw hd (kk (sGI M a k x) rfl r M9 h9 hnn)
theorem c_putL {ci N index n0 lim : Nat} {M : MG} {A : MG → Option (Unit × MG)} {x : Int64} {C : String} {Tt : u_T} (hA : CXA p R s m args meth c cc nL own D T b n0 lim) (hCL : CL ci C Tt N) {a : Nat} (ha : n0 ≤ M.2.2.2 → a < M.2.2.2) (hk : kd a = ci) (k : Nat) (hkN : k < N) (hn : (Tt k).1 = C) (hty : tyf ci k = .long) (hfin : (Tt k).2.2.2 = false) (hw : Cond.fieldLink own index C (Tt k).2.1 (Tt k).2.2.1 ∈ tb) (hd : decode cc pc = .ok (.putfield index, 3)) (kk : ∀ M1 : MG, M1.2.2.2 = M.2.2.2 → GC p l e R s m args below meth c D T b nL n0 lim (pc + 3) lv st M1 (A M1)) : GC p l e R s m args below meth c D T b nL n0 lim pc lv (.long x :: .ref (b + a) :: st) M (bndG (sGL M a k x) A) := fun r M9 h9 hnn => GG_putL hA.1 hCL (ha hnn) hk k hkN hn hty hfin hw hd (kk (sGL M a k x) rfl r M9 h9 hnn)
theorem c_putZ {ci N index n0 lim : Nat} {M : MG} {A : MG → Option (Unit × MG)} {x : Int32} {C : String} {Tt : u_T} (hA : CXA p R s m args meth c cc nL own D T b n0 lim) (hCL : CL ci C Tt N) {a : Nat} (ha : n0 ≤ M.2.2.2 → a < M.2.2.2) (hk : kd a = ci) (k : Nat) (hkN : k < N) (hn : (Tt k).1 = C) (hty : tyf ci k = .boolean) (hfin : (Tt k).2.2.2 = false) (hw : Cond.fieldLink own index C (Tt k).2.1 (Tt k).2.2.1 ∈ tb) (hz0 : x = 0 ∨ x = 1) (hd : decode cc pc = .ok (.putfield index, 3)) (kk : ∀ M1 : MG, M1.2.2.2 = M.2.2.2 → GC p l e R s m args below meth c D T b nL n0 lim (pc + 3) lv st M1 (A M1)) : GC p l e R s m args below meth c D T b nL n0 lim pc lv (.int x :: .ref (b + a) :: st) M (bndG (sGI M a k x) A) := fun r M9 h9 hnn => GG_putZ hA.1 hCL (ha hnn) hk k hkN hn hty hfin hw hz0 hd (kk (sGI M a k x) rfl r M9 h9 hnn)
theorem c_getR {ci cq N index n0 lim : Nat} {M : MG} {A : Nat → Option (Unit × MG)} {C : String} {Tt : u_T} (hA : CXA p R s m args meth c cc nL own D T b n0 lim) (hCL : CL ci C Tt N) {a : Nat} (ha : n0 ≤ M.2.2.2 → a < M.2.2.2) (hk : kd a = ci) (k : Nat) (hkN : k < N) (hn : (Tt k).1 = C) (hty : (∃ z, tyf ci k = .object z) ∨ ∃ z, tyf ci k = .array z) (hw : Cond.fieldLink own index C (Tt k).2.1 (Tt k).2.2.1 ∈ tb) (hd : decode cc pc = .ok (.getfield index, 3)) (kk : ∀ q, kd q = cq → q < M.2.2.2 → GC p l e R s m args below meth c D T b nL n0 lim (pc + 3) lv (.ref (b + q) :: st) M (A q)) : GC p l e R s m args below meth c D T b nL n0 lim pc lv (.ref (b + a) :: st) M (gR (M.2.2.1 a k) cq M A) := by
  intro r M9 h9 hnn
  unfold gR at h9
  split at h9
  · cases h9
  · rename_i z hz
    by_cases q : kd z = cq ∧ z < M.2.2.2
    · rw [if_pos q] at h9
      exact GG_getR hA.1 hCL (ha hnn) hk k hkN hn hty hw hz hd (kk z q.1 q.2 r M9 h9 hnn)
    · rw [if_neg q] at h9
      cases h9
theorem c_aast {ca ci n0 lim a v : Nat} {r0 : vw_C} {i : Int32} {M : MG} {A : MG → Option (Unit × MG)} (hA : CXA p R s m args meth c cc nL own D T b n0 lim) (ha : n0 ≤ M.2.2.2 → a < M.2.2.2) (hk : kd a = ca) (hv : n0 ≤ M.2.2.2 → v < M.2.2.2) (hkv : kd v = ci) (hr : (ca = 9 ∧ ci = 0 ∧ r0 = (RX0, TX0, 18)) ∨ (ca = 10 ∧ ci = 2 ∧ r0 = (RX2, TX2, 19))) (hd : decode cc pc = .ok (.aastore, 1)) (kk : ∀ M1 : MG, M1.2.2.2 = M.2.2.2 → GC p l e R s m args below meth c D T b nL n0 lim (pc + 1) lv st M1 (A M1)) : GC p l e R s m args below meth c D T b nL n0 lim pc lv (.ref (b + v) :: .int i :: .ref (b + a) :: st) M (chk i (ln a) (bndG (sGR M a i.toNatClampNeg (some v)) A)) := by
  intro r M9 h9 hnn
  obtain ⟨hi, h9⟩ := chk_in h9
  exact GG_aast hA.1 (ha hnn) hk (hv hnn) hkv hr hi hd (kk (sGR M a i.toNatClampNeg (some v)) rfl r M9 h9 hnn)
def CNA (l : Launch) (y : MethodName) (cc : ByteArray) (maxL f9 l9 n0 lim : Nat) (av : Nat → List Value) (M : MG) (F : Option (Unit × MG)) : Prop := ∀ (r : Unit) (M' : MG), F = some (r, M') → CtA l y cc maxL (rmC f9 l9 (lim - n0) (sl lim - sl n0)) (lim - n0) (sl lim - sl n0) av M M'
theorem c_init {n0 lim n1 lim1 index maxL n f9 l9 : Nat} {M : MG} {y : MethodName} {c2 : ByteArray} {av : Nat → List Value} {As rest : List Value} {a : Nat} {F1 : Option (Unit × MG)} {k : MG → Option (Unit × MG)} (hA : CXA p R s m args meth c cc nL own D T b n0 lim) (hM : CNA l y c2 maxL f9 l9 n1 lim1 av M F1) (hn1 : M.2.2.2 = n1) (hl1 : n1 ≤ lim1) (hy : MI y c2 maxL n) (hw : Cond.methodLink own index y ∈ tb ∨ ∃ host, Cond.methodLinkNest own index y host ∈ lw_tbl) (hn : As.length = n) (hav : av b = .ref (b + a) :: As) (hst : st = As.reverse ++ .ref (b + a) :: rest) (hroom : (rest.map fun v => v.category).sum ≤ 8) (hR : f9 + 1 ≤ R.frames ∧ 8 + (maxL + 11) + l9 ≤ R.locals) (hd : decode cc pc = .ok (.invokespecial index, 3))
    (kk : ∀ M1 : MG, M1.2.2.2 = lim1 → GC p l e R s m args below meth c D T b nL n0 lim (pc + 3) lv rest M1 (k M1)) : GC p l e R s m args below meth c D T b nL n0 lim pc lv st M (calC F1 lim1 lim k) := by
  intro r M9 h9 hnn
  unfold calC at h9
  split at h9
  · cases h9
  · rename_i z
    by_cases q : z.2.2.2.2 = lim1 ∧ lim1 ≤ lim
    · rw [if_pos q] at h9
      obtain ⟨hC, hAO, hb0, hin, hRc, hRs⟩ := hA
      have h1 := sl_mono hnn
      have h2 := sl_mono q.2
      have h3 := sl_mono hl1
      rw [← hn1] at h3
      refine GG_init (mc := lim1 - n1) (ms := sl lim1 - sl n1) hC hAO hb0 (by omega) (hM z.1 z.2 rfl) hy hw hn hav ⟨rfl, rfl⟩ hst hroom hR ⟨by omega, by rw [← hn1]; omega⟩ hd ?_
      have e1 : M.2.2.2 - n0 + (lim1 - n1) = z.2.2.2.2 - n0 := by omega
      have e2 : sl M.2.2.2 - sl n0 + (sl lim1 - sl n1) = sl z.2.2.2.2 - sl n0 := by
        rw [q.1, ← hn1]
        omega
      rw [e1, e2]
      exact kk z.2 q.1 r M9 h9 (by omega)
    · rw [if_neg q] at h9
      cases h9
theorem c_vret {n0 lim : Nat} {M : MG} (hA : CXA p R s m args meth c cc nL own D T b n0 lim) (hd : decode cc pc = .ok (.return_, 1)) : GC p l e R s m args below meth c D T b nL n0 lim pc lv [] M (retC lim M) := by
  intro r M9 h9 hnn
  unfold retC at h9
  by_cases q : M.2.2.2 = lim
  · rw [if_pos q] at h9
    cases h9
    rw [q]
    intro H locs ls hl hP hS
    have hlk := hA.1.2.2.2.2.2.1
    exact W.vret hA.1.1 hA.1.2.1 hA.1.2.2.2.2.1 (fun t ht hW => ⟨⟨rfl, by rw [ht]; exact hP⟩, hS.F ht⟩) hS.2.2 hd
  · rw [if_neg q] at h9
    cases h9
theorem CNA.of {y : MethodName} {maxL f9 l9 n0 lim : Nat} {av : Nat → List Value} {M : MG} {F : Option (Unit × MG)} (own : String) (lv : Nat → List (Nat × Value)) (hy : plainName y.cls = true) (ho : y.cls = own) (hyi : y.name = "<init>") (hlen : ∀ b, (lg_sl (av b)).length ≤ maxL) (hlv : ∀ b, lv_args 0 (av b) = lv b) (hn : M.2.2.2 = n0)
    (body : ∀ (p : Program) (e : Env) (s : State) (m : MethodId) (args : Array Value) (below : List Frame) (meth : Method) (c : Code) (D : va_G) (T : Nat → ClassId) (b : Nat), CXA p (rmC f9 l9 (lim - n0) (sl lim - sl n0)) s m args meth c cc maxL own D T b n0 lim → GC p l e (rmC f9 l9 (lim - n0) (sl lim - sl n0)) s m args below meth c D T b maxL n0 lim 0 (lv b) [] M F) : CNA l y cc maxL f9 l9 n0 lim av M F := by
  intro r M' hF D T b
  refine Met.ofW (cc := cc) (maxL := maxL) (ret := none) hy rfl ?_
  intro p e s m args below meth c s₁ B hml hv
  obtain ⟨rfl, hP, hsz, hK, hN, hAO⟩ := hv
  have hts := atoms_spec (ws := .code y cc maxL none :: tb) B.pre
  have hown : s.vm.findClass own = some m.cls := by rw [← ho]; exact findClass_of_methodNamed B.named
  have hin : meth.name = "<init>" := by rw [← hyi]; exact (name_of_methodNamed B.named B.method).1
  have hl := lv_entry (av b) (n := maxL) (hlen b)
  rw [lg_entry_eq]
  generalize (lg_sl (av b) ++ List.replicate (maxL - (lg_sl (av b)).length) Slot.unset).toArray = ls at hl ⊢
  rw [hlv b] at hl
  have h1 := body p e s m _ below meth c D T b ⟨⟨B.exec, B.bytes, hml, hown, B.returns, B.notSynchronized, fun w h => hts w (List.mem_cons_of_mem _ h), hK, hN⟩, hAO, by rw [hsz, hn], hin, rfl, rfl⟩ r M' hF (Nat.le_of_eq hn.symm) s.heap [] ls hl hP va_S.rf
  rw [hn, Nat.sub_self, Nat.sub_self] at h1
  exact h1
end CG
theorem wz_L : Cond.initialized RL ∈ tb := tb_in (List.mem_append_right _ (List.mem_of_getElem? (i := 0) (by decide +kernel))) rfl
theorem wz_X4 : Cond.initialized RX4 ∈ tb := tb_in (List.mem_append_right _ (List.mem_of_getElem? (i := 1) (by decide +kernel))) rfl
theorem wz_X3 : Cond.initialized RX3 ∈ tb := tb_in (List.mem_append_right _ (List.mem_of_getElem? (i := 2) (by decide +kernel))) rfl
theorem wz_X1 : Cond.initialized RX1 ∈ tb := tb_in (List.mem_append_right _ (List.mem_of_getElem? (i := 3) (by decide +kernel))) rfl
theorem wz_X2 : Cond.initialized RX2 ∈ tb := tb_in (List.mem_append_right _ (List.mem_of_getElem? (i := 4) (by decide +kernel))) rfl
theorem wz_X0 : Cond.initialized RX0 ∈ tb := tb_in (List.mem_append_right _ (List.mem_of_getElem? (i := 5) (by decide +kernel))) rfl
theorem wz_X5 : Cond.initialized RX5 ∈ tb := tb_in (List.mem_append_right _ (List.mem_of_getElem? (i := 6) (by decide +kernel))) rfl
theorem wk_L_7 : Cond.classLink RL 7 RX4 ∈ tb := tb_in (List.mem_append_right _ (List.mem_of_getElem? (i := 7) (by decide +kernel))) rfl
theorem wn_X4 : Cond.instantiable RX4 8 ∈ tb := tb_in (List.mem_append_right _ (List.mem_of_getElem? (i := 8) (by decide +kernel))) rfl
theorem wo_X4_1 : Cond.methodLink RX4 1 objectInit ∈ tb := tb_in (List.mem_append_right _ (List.mem_of_getElem? (i := 12) (by decide +kernel))) rfl
theorem wk_X4_9 : Cond.classLink RX4 9 RX0 ∈ tb := tb_in (List.mem_append_right _ (List.mem_of_getElem? (i := 15) (by decide +kernel))) rfl
theorem wk_X4_15 : Cond.classLink RX4 15 RX3 ∈ tb := tb_in (List.mem_append_right _ (List.mem_of_getElem? (i := 17) (by decide +kernel))) rfl
theorem wn_X3 : Cond.instantiable RX3 2 ∈ tb := tb_in (List.mem_append_right _ (List.mem_of_getElem? (i := 18) (by decide +kernel))) rfl
theorem wo_X3_3 : Cond.methodLink RX3 3 objectInit ∈ tb := tb_in (List.mem_append_right _ (List.mem_of_getElem? (i := 22) (by decide +kernel))) rfl
theorem wk_X4_22 : Cond.classLink RX4 22 RX1 ∈ tb := tb_in (List.mem_append_right _ (List.mem_of_getElem? (i := 35) (by decide +kernel))) rfl
theorem wn_X1 : Cond.instantiable RX1 9 ∈ tb := tb_in (List.mem_append_right _ (List.mem_of_getElem? (i := 36) (by decide +kernel))) rfl
theorem wo_X1_3 : Cond.methodLink RX1 3 objectInit ∈ tb := tb_in (List.mem_append_right _ (List.mem_of_getElem? (i := 40) (by decide +kernel))) rfl
theorem wk_X1_9 : Cond.classLink RX1 9 RX2 ∈ tb := tb_in (List.mem_append_right _ (List.mem_of_getElem? (i := 41) (by decide +kernel))) rfl
theorem wn_X2 : Cond.instantiable RX2 19 ∈ tb := tb_in (List.mem_append_right _ (List.mem_of_getElem? (i := 43) (by decide +kernel))) rfl
theorem wo_X2_3 : Cond.methodLink RX2 3 objectInit ∈ tb := tb_in (List.mem_append_right _ (List.mem_of_getElem? (i := 47) (by decide +kernel))) rfl
theorem wn_X0 : Cond.instantiable RX0 18 ∈ tb := tb_in (List.mem_append_right _ (List.mem_of_getElem? (i := 156) (by decide +kernel))) rfl
theorem wo_X0_3 : Cond.methodLink RX0 3 objectInit ∈ tb := tb_in (List.mem_append_right _ (List.mem_of_getElem? (i := 160) (by decide +kernel))) rfl
theorem wn_X5 : Cond.instantiable RX5 44 ∈ tb := tb_in (List.mem_append_right _ (List.mem_of_getElem? (i := 677) (by decide +kernel))) rfl
theorem wk_L_10 : Cond.classLink RL 10 RX5 ∈ tb := tb_in (List.mem_append_right _ (List.mem_of_getElem? (i := 915) (by decide +kernel))) rfl
theorem wo_X5_299 : Cond.methodLink RX5 299 objectInit ∈ tb := tb_in (List.mem_append_right _ (List.mem_of_getElem? (i := 919) (by decide +kernel))) rfl
theorem woi : Cond.instanceMethod objectInit ∈ tb := tb_in (List.mem_append_right _ (List.mem_of_getElem? (i := 13) (by decide +kernel))) rfl
theorem woc : Cond.code objectInit ⟨#[0xb1]⟩ 1 none ∈ tb := tb_in (List.mem_append_right _ (List.mem_of_getElem? (i := 14) (by decide +kernel))) rfl
theorem wa_byte : Cond.arrayClass .byte ∈ tb := tb_in (List.mem_append_right _ (List.mem_of_getElem? (i := 34) (by decide +kernel))) rfl
theorem wa_int : Cond.arrayClass .int ∈ tb := tb_in (List.mem_append_right _ (List.mem_of_getElem? (i := 234) (by decide +kernel))) rfl
theorem wa_boolean : Cond.arrayClass .boolean ∈ tb := tb_in (List.mem_append_right _ (List.mem_of_getElem? (i := 1053) (by decide +kernel))) rfl
theorem my_X0_init : MI yX0_init cX0_init 1 0 := ⟨tb_in (List.mem_append_right _ (List.mem_of_getElem? (i := 159) (by decide +kernel))) rfl, tb_in (List.mem_append_right _ (List.mem_of_getElem? (i := 5) (by decide +kernel))) rfl, tb_in (List.mem_append_right _ (List.mem_of_getElem? (i := 158) (by decide +kernel))) rfl, rfl, by decide +kernel⟩
theorem my_X1_init : MI yX1_init cX1_init 3 1 := ⟨tb_in (List.mem_append_right _ (List.mem_of_getElem? (i := 39) (by decide +kernel))) rfl, tb_in (List.mem_append_right _ (List.mem_of_getElem? (i := 3) (by decide +kernel))) rfl, tb_in (List.mem_append_right _ (List.mem_of_getElem? (i := 38) (by decide +kernel))) rfl, rfl, by decide +kernel⟩
theorem my_X2_init : MI yX2_init cX2_init 1 0 := ⟨tb_in (List.mem_append_right _ (List.mem_of_getElem? (i := 46) (by decide +kernel))) rfl, tb_in (List.mem_append_right _ (List.mem_of_getElem? (i := 4) (by decide +kernel))) rfl, tb_in (List.mem_append_right _ (List.mem_of_getElem? (i := 45) (by decide +kernel))) rfl, rfl, by decide +kernel⟩
theorem my_X3_init : MI yX3_init cX3_init 1 0 := ⟨tb_in (List.mem_append_right _ (List.mem_of_getElem? (i := 21) (by decide +kernel))) rfl, tb_in (List.mem_append_right _ (List.mem_of_getElem? (i := 2) (by decide +kernel))) rfl, tb_in (List.mem_append_right _ (List.mem_of_getElem? (i := 20) (by decide +kernel))) rfl, rfl, by decide +kernel⟩
theorem my_X4_init : MI yX4_init cX4_init 2 0 := ⟨tb_in (List.mem_append_right _ (List.mem_of_getElem? (i := 11) (by decide +kernel))) rfl, tb_in (List.mem_append_right _ (List.mem_of_getElem? (i := 1) (by decide +kernel))) rfl, tb_in (List.mem_append_right _ (List.mem_of_getElem? (i := 10) (by decide +kernel))) rfl, rfl, by decide +kernel⟩
theorem my_X5_init : MI yX5_init cX5_init 1 0 := ⟨tb_in (List.mem_append_right _ (List.mem_of_getElem? (i := 918) (by decide +kernel))) rfl, tb_in (List.mem_append_right _ (List.mem_of_getElem? (i := 6) (by decide +kernel))) rfl, tb_in (List.mem_append_right _ (List.mem_of_getElem? (i := 917) (by decide +kernel))) rfl, rfl, by decide +kernel⟩
