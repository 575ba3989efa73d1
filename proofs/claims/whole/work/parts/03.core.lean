/-! LAYOUT: the cells that the law's two constructors make, in their order, counted from the heap's size at the law's start.
  0 ZipForms, 1 its Entry[12], 2 Store, 3 its byte[2000], 4 Reading, 5 its Row[12], 6..17 the Rows, 18 remark byte[12], 19+6i the Entry i with its five arrays behind it, 91 the reference, 92..114 its arrays.
  kinds: 0 Entry 1 Reading 2 Row 3 Store 4 ZipForms 5 ZipFormsModel 6 byte[] 7 int[] 8 boolean[] 9 Entry[] 10 Row[] 11 nothing -/
def kd (a : Nat) : Nat :=
  if a = 0 then 4 else if a = 1 then 9 else if a = 2 then 3 else if a = 3 then 6 else if a = 4 then 1 else if a = 5 then 10 else if a < 18 then 2 else if a = 18 then 6
  else if a < 91 then (if (a - 19) % 6 = 0 then 0 else if (a - 19) % 6 = 3 then 7 else if (a - 19) % 6 = 4 then 7 else 6)
  else if a = 91 then 5 else if a < 115 then (if a = 103 then 8 else if a = 108 then 8 else 7) else 11
def ln (a : Nat) : Nat :=
  if a = 3 then 2000 else if a < 19 then 12
  else if a < 91 then (if (a - 19) % 6 = 1 then 16 else if (a - 19) % 6 = 2 then 40 else if (a - 19) % 6 = 5 then 24 else 3)
  else if a = 94 then 192 else if a = 100 then 36 else if a = 101 then 36 else if a = 102 then 288 else if a = 105 then 480 else if a = 111 then 2100 else 12
/-- the references: they are set by the constructors alone -/
def rf (a k : Nat) : Nat :=
  if a = 0 then (if k = 0 then 1 else if k = 1 then 2 else if k = 2 then 4 else 18)
  else if a = 1 then 19 + 6 * k else if a = 2 then 3 else if a = 4 then (if k = 0 then 2 else 5) else if a = 5 then 6 + k
  else if a < 91 then a + 1 + k
  else if k < 22 then 89 + k else if k = 23 then 111 else if k = 33 then 112 else if k = 42 then 113 else 114
theorem kd_lt {a k : Nat} (h : kd a = k) (hk : k < 11) : a < 115 := by
  rcases Nat.lt_or_ge a 115 with q | q
  · exact q
  · exfalso
    have : kd a = 11 := by
      unfold kd
      rw [if_neg (by omega), if_neg (by omega), if_neg (by omega), if_neg (by omega), if_neg (by omega), if_neg (by omega), if_neg (by omega), if_neg (by omega), if_neg (by omega), if_neg (by omega), if_neg (by omega)]
    omega
/-! MEMORY: ints (of every small type), longs, references, how many cells there are -/
abbrev MG : Type := (Nat → Nat → Int32) × (Nat → Nat → Int64) × (Nat → Nat → Option Nat) × Nat
abbrev Me : Type := (Nat → Nat → Int32) × (Nat → Nat → Int64)
def mg (M : Me) : MG := (M.1, M.2, (fun a k => some (rf a k)), 115)
def up2 {α : Type} (f : Nat → Nat → α) (a k : Nat) (v : α) : Nat → Nat → α := va_up f a (va_up (f a) k v)
def sI (M : Me) (a k : Nat) (v : Int32) : Me := (up2 M.1 a k v, M.2)
def sL (M : Me) (a k : Nat) (v : Int64) : Me := (M.1, up2 M.2 a k v)
def sGI (M : MG) (a k : Nat) (v : Int32) : MG := (up2 M.1 a k v, M.2)
def sGL (M : MG) (a k : Nat) (v : Int64) : MG := (M.1, up2 M.2.1 a k v, M.2.2)
def sGR (M : MG) (a k : Nat) (v : Option Nat) : MG := (M.1, M.2.1, up2 M.2.2.1 a k v, M.2.2.2)
def nfl (ci : Nat) : Nat := match ci with
  | 0 => 18
  | 1 => 9
  | 2 => 19
  | 3 => 2
  | 4 => 8
  | _ => 44
def tyf (ci : Nat) : Nat → FieldType := match ci with
  | 0 => tyX0
  | 1 => tyX1
  | 2 => tyX2
  | 3 => tyX3
  | 4 => tyX4
  | _ => tyX5
def fvl (b : Nat) (M : MG) (a : Nat) (ty : FieldType) (k : Nat) : Value := match ty with
  | .long => .long (M.2.1 a k)
  | .object _ => va_rf ((M.2.2.1 a k).map (fun q => b + q))
  | .array _ => va_rf ((M.2.2.1 a k).map (fun q => b + q))
  | _ => .int (M.1 a k)
def cel (T : Nat → ClassId) (b : Nat) (M : MG) (a : Nat) : va_E :=
  if kd a < 6 then .inr (kd a, (List.range (nfl (kd a))).map (fun k => fvl b M a (tyf (kd a) k) k))
  else if kd a < 9 then .inl (T (kd a), ln a, .inl (M.1 a))
  else .inl (T (kd a), ln a, .inr (.inr (.inr (.inr (fun j => (M.2.2.1 a j).map (fun q => b + q))))))
def wsM (T : Nat → ClassId) (b : Nat) (M : MG) : va_W := (List.range M.2.2.2).map (fun a => (b + a, cel T b M a))
def tyl (T : Nat → ClassId) : List (ClassId × FieldType) := [(T 6, .byte), (T 7, .int), (T 8, .boolean), (T 9, .object RX0), (T 10, .object RX2)]
theorem wsM_at {T : Nat → ClassId} {b : Nat} {M : MG} {a : Nat} (h : a < M.2.2.2) : (wsM T b M)[a]? = some (b + a, cel T b M a) := by
  unfold wsM
  rw [List.getElem?_map, List.getElem?_range h]
  rfl
theorem wsM_inv {T : Nat → ClassId} {b : Nat} {M : MG} {k : Nat} {q : Nat × va_E} (h : (wsM T b M)[k]? = some q) : k < M.2.2.2 ∧ q = (b + k, cel T b M k) := by
  unfold wsM at h
  rw [List.getElem?_map] at h
  rcases Nat.lt_or_ge k M.2.2.2 with hk | hk
  · rw [List.getElem?_range hk] at h
    exact ⟨hk, (Option.some.inj h).symm⟩
  · rw [List.getElem?_eq_none (by simpa using hk)] at h
    cases h
theorem wsM_D {T : Nat → ClassId} {b : Nat} {M : MG} : va_D (fun q => b ≤ q) (wsM T b M) := by
  refine ⟨fun i j p q hi hj h => ?_, fun k q h => ?_⟩
  · have h1 := wsM_inv hi
    have h2 := wsM_inv hj
    rw [h1.2, h2.2] at h
    have h3 : b + i = b + j := h
    omega
  · rw [(wsM_inv h).2]
    exact Nat.le_add_right b k
theorem cel_obj {T : Nat → ClassId} {b : Nat} {M : MG} {a ci : Nat} (hk : kd a = ci) (hc : ci < 6) : cel T b M a = .inr (ci, (List.range (nfl ci)).map (fun k => fvl b M a (tyf ci k) k)) := by
  subst hk
  unfold cel
  rw [if_pos hc]
theorem cel_arr {T : Nat → ClassId} {b : Nat} {M : MG} {a ci : Nat} (hk : kd a = ci) (hc : ¬ ci < 6) (hc2 : ci < 9) : cel T b M a = .inl (T ci, ln a, .inl (M.1 a)) := by
  subst hk
  unfold cel
  rw [if_neg hc, if_pos hc2]
theorem cel_ref {T : Nat → ClassId} {b : Nat} {M : MG} {a ci : Nat} (hk : kd a = ci) (hc : ¬ ci < 9) : cel T b M a = .inl (T ci, ln a, .inr (.inr (.inr (.inr (fun j => (M.2.2.1 a j).map (fun q => b + q)))))) := by
  subst hk
  unfold cel
  rw [if_neg (by omega), if_neg hc]
theorem up2_s {α : Type} (f : Nat → Nat → α) (a k : Nat) (v : α) : up2 f a k v a k = v := by simp [up2, va_up]
theorem up2_r {α : Type} (f : Nat → Nat → α) {a b : Nat} (k : Nat) (v : α) (h : b ≠ a) : up2 f a k v b = f b := by simp [up2, va_up, h]
theorem up2_k {α : Type} (f : Nat → Nat → α) {a k j : Nat} (v : α) (h : j ≠ k) : up2 f a k v a j = f a j := by simp [up2, va_up, h]
theorem up2_row {α : Type} (f : Nat → Nat → α) (a k : Nat) (v : α) : up2 f a k v a = va_up (f a) k v := by simp [up2, va_up]
/-- a world with one cell changed is the changed memory's world -/
theorem wsM_set {T : Nat → ClassId} {b : Nat} {M M' : MG} {a : Nat} {x : va_E} (hn : M'.2.2.2 = M.2.2.2) (ha : x = cel T b M' a) (ho : ∀ q, q ≠ a → cel T b M' q = cel T b M q) : (wsM T b M).set a (b + a, x) = wsM T b M' := by
  apply List.ext_getElem?
  intro i
  by_cases hia : i = a
  · subst hia
    rcases Nat.lt_or_ge i M.2.2.2 with hl | hl
    · rw [wsM_at (by rw [hn]; exact hl), List.getElem?_set_self (by unfold wsM; simpa using hl), ha]
    · rw [List.getElem?_eq_none (by unfold wsM; simpa using hl), List.getElem?_eq_none (by unfold wsM; simp [hn]; exact hl)]
  · rw [List.getElem?_set_ne (fun q => hia q.symm)]
    rcases Nat.lt_or_ge i M.2.2.2 with hl | hl
    · rw [wsM_at hl, wsM_at (by rw [hn]; exact hl), ho i hia]
    · rw [List.getElem?_eq_none (by unfold wsM; simpa using hl), List.getElem?_eq_none (by unfold wsM; simp [hn]; exact hl)]
theorem fvl_oth {b : Nat} {M M' : MG} {q : Nat} (h1 : M'.1 q = M.1 q) (h2 : M'.2.1 q = M.2.1 q) (h3 : M'.2.2.1 q = M.2.2.1 q) (ty : FieldType) (k : Nat) : fvl b M' q ty k = fvl b M q ty k := by
  unfold fvl
  rw [h1, h2, h3]
theorem cel_oth {T : Nat → ClassId} {b : Nat} {M M' : MG} {q : Nat} (h1 : M'.1 q = M.1 q) (h2 : M'.2.1 q = M.2.1 q) (h3 : M'.2.2.1 q = M.2.2.1 q) : cel T b M' q = cel T b M q := by
  unfold cel
  rw [h1, h3]
  have : (fun k => fvl b M' q (tyf (kd q) k) k) = (fun k => fvl b M q (tyf (kd q) k) k) := funext fun k => fvl_oth h1 h2 h3 _ k
  rw [this]
theorem map_set {α : Type} (f g : Nat → α) (N k : Nat) (v : α) (hk : g k = v) (ho : ∀ j, j ≠ k → g j = f j) : ((List.range N).map f).set k v = (List.range N).map g := by
  apply List.ext_getElem?
  intro i
  by_cases hik : i = k
  · subst hik
    rcases Nat.lt_or_ge i N with hl | hl
    · rw [List.getElem?_set_self (by simpa using hl), List.getElem?_map, List.getElem?_range hl, ← hk]
      rfl
    · rw [List.getElem?_eq_none (by simpa using hl), List.getElem?_eq_none (by simpa using hl)]
  · rw [List.getElem?_set_ne (fun q => hik q.symm), List.getElem?_map, List.getElem?_map]
    rcases Nat.lt_or_ge i N with hl | hl
    · rw [List.getElem?_range hl]
      simp only [Option.map_some]
      rw [ho i hik]
    · rw [List.getElem?_eq_none (by simpa using hl)]
      rfl
/-! the words: those of the tables that a contract may carry -/
def tb : List Cond := lw_tbl.filter goodWord
theorem tb_in {w : Cond} (h : w ∈ lw_tbl) (hg : goodWord w = true) : w ∈ tb := List.mem_filter.mpr ⟨h, hg⟩
theorem tb_lw {w : Cond} (h : w ∈ tb) : w ∈ lw_tbl := (List.mem_filter.mp h).1
theorem tb_good {c : Cond} (h : c ∈ tb) : GoodIn tb (c :: tb) := by
  intro w hw
  rcases List.mem_cons.mp hw with e | hw
  · subst e
    exact ⟨h, good_of_word (List.mem_filter.mp h).2⟩
  · exact ⟨hw, good_of_word (List.mem_filter.mp hw).2⟩
theorem tb_at {ws : List Cond} {w : Cond} (k i : Nat) (h1 : k2_sels lw_privs = ws) (h2 : (ws ++ tables_1)[i]? = some w) (hg : goodWord w = true) : w ∈ tb := tb_in (by unfold lw_tbl; rw [h1]; exact List.mem_of_getElem? h2) hg
/-- the links to private members of nest mates -/
def nws : List Cond := lw_tbl.filter (fun w => match w with
  | .methodLinkNest _ _ _ _ => true
  | _ => false)
def NW (U : State) : Prop := ∀ (a : String) (i : Nat) (y : MethodName) (h : String), Cond.methodLinkNest a i y h ∈ lw_tbl → va_Nw (.methodLinkNest a i y h) U
theorem NW.warm {s U : State} (hW : s.WarmedH U.vm) (h : NW s) : NW U := fun a i y hh q => va_Nw.warmM hW (h a i y hh q)
theorem NW.same {s U : State} (e : s.vm = U.vm) (h : NW s) : NW U := fun a i y hh q => va_Nw.same rfl e (h a i y hh q)
/-- what a method's body knows all the time -/
def CX (p : Program) (s : State) (m : MethodId) (args : Array Value) (meth : Method) (c : Code) (cc : ByteArray) (nL : Nat) (own : String) (ret : Option FieldType) (D : va_G) (T : Nat → ClassId) : Prop :=
  p.tables.exec = Jvm.exec ∧ c.code = cc ∧ c.maxLocals = nL ∧ s.vm.findClass own = some m.cls ∧ meth.sig.returnType = ret ∧ meth.locks = false ∧ (∀ w ∈ tb, w.before args s = true) ∧ va_K D vwCl (tyl T) s ∧ NW s
/-- the heap is the memory -/
def RP (D : va_G) (T : Nat → ClassId) (b : Nat) (M : MG) (H : Heap) : Prop := va_P D vwCl (wsM T b M) H
def QC (D : va_G) (T : Nat → ClassId) (b : Nat) (v : Option Value) (M : MG) : Array Value → State → Outcome → State → Prop := fun _ st oc t => (oc = .returned v ∧ RP D T b M t.heap) ∧ va_F (fun q => b ≤ q) st t
def PC (D : va_G) (T : Nat → ClassId) (b : Nat) (av : List Value) (M : MG) : Array Value → State → Prop := va_Pc av (fun U => RP D T b M U.heap ∧ va_K D vwCl (tyl T) U ∧ NW U)
/-- a method's contract: called with av over the memory M it answers v and leaves M' -/
def Ct (l : Launch) (y : MethodName) (cc : ByteArray) (maxL : Nat) (ret : Option FieldType) (rm : Room) (mc ms : Nat) (av : Nat → List Value) (M : MG) (v : Option Value) (M' : MG) : Prop :=
  ∀ (D : va_G) (T : Nat → ClassId) (b : Nat), Met l y (.code y cc maxL ret :: tb) rm (PC D T b (av b) M) (QC D T b v M') mc ms (fun q => b ≤ q)
theorem PC.blind {D : va_G} {T : Nat → ClassId} {b : Nat} {av : List Value} {M : MG} : FrameBlind (PC D T b av M) := by
  intro a U g mk h
  obtain ⟨h1, h2, h3, h4⟩ := h
  exact ⟨h1, h2, va_K.moved (u := U) (U := U.calling g mk a) (Vm.Alike.refl U.vm) h3, NW.same rfl h4⟩
section GR
variable {p : Program} {l : Launch} {e : Env} {R : Room} {s : State} {m : MethodId} {args : Array Value} {below : List Frame} {meth : Method} {c : Code} {D : va_G} {T : Nat → ClassId} {b nL : Nat} {cc : ByteArray} {own : String} {ret : Option FieldType} {Q : State → Prop} {pc : Nat} {lv : List (Nat × Value)} {st : List Value}
def GG (p : Program) (l : Launch) (e : Env) (R : Room) (s : State) (m : MethodId) (args : Array Value) (below : List Frame) (meth : Method) (c : Code) (D : va_G) (T : Nat → ClassId) (b nL : Nat) (cells slots : Nat) (Q : State → Prop) (pc : Nat) (lv : List (Nat × Value)) (st : List Value) (M : MG) : Prop :=
  ∀ (H : Heap) (locs : List Loc) (ls : Array Slot), lv_has ls nL lv → RP D T b M H → va_S (fun q => b ≤ q) s.heap H locs → W p l e R s m args below meth c H locs cells slots Q (F0 m pc ls st)
/-- from here the method answers what F says -/
def GN {α : Type} (p : Program) (l : Launch) (e : Env) (R : Room) (s : State) (m : MethodId) (args : Array Value) (below : List Frame) (meth : Method) (c : Code) (D : va_G) (T : Nat → ClassId) (b nL : Nat) (em : α → Option Value) (pc : Nat) (lv : List (Nat × Value)) (st : List Value) (M : Me) (F : Option (α × Me)) : Prop :=
  ∀ (r : α) (M' : Me), F = some (r, M') → GG p l e R s m args below meth c D T b nL 0 0 (MQ below (QC D T b (em r) (mg M')) args s 0 0 (fun q => b ≤ q)) pc lv st (mg M)
/-- a call behind its run -/
theorem GG_cont {cells slots mc ms : Nat} {M' : MG} {v : Option Value} {H : Heap} {locs : List Loc} {ls : Array Slot} {st0 rest : List Value} {a : Array Value} (hr : va_Run p l e R s m args below meth c H locs cells slots mc ms (F0 m pc ls st0) rest (QC D T b v M' a) (fun q => b ≤ q)) (hl : lv_has ls nL lv) (hS : va_S (fun q => b ≤ q) s.heap H locs)
    (kk : GG p l e R s m args below meth c D T b nL (cells + mc) (slots + ms) Q (pc + 3) lv (v.toList ++ rest) M') : W p l e R s m args below meth c H locs cells slots Q (F0 m pc ls st0) := by
  intro X0 hT X
  obtain ⟨v', st₀, t, T', L, h0, X', hL, e1, e2, ⟨⟨hv, hP⟩, hz, hk⟩, stp⟩ := hr X0 hT X
  cases hv
  rw [h0] at hz hk
  obtain ⟨t2, a1, b1⟩ := kk T'.heap (locs ++ L) ls hl (by rw [e1]; exact hP)
    ⟨Nat.le_trans hS.1 (by rw [e1]; exact hz), fun q h1 h2 => by rw [e1, hk q (Nat.lt_of_lt_of_le h1 hS.1) h2]; exact hS.2.1 q h1 h2, fun q hq => by
      rcases List.mem_append.mp hq with h | h
      · exact hS.2.2 q h
      · exact hL q h⟩ T' rfl X'
  exact ⟨t2, stp t2 a1, b1⟩

theorem n_iconst {α : Type} {em : α → Option Value} {M : Me} {F : Option (α × Me)} (hC : CX p s m args meth c cc nL own ret D T) {n : Int} (v : Int32) (hv : Int32.ofInt n = v) (hd : decode cc pc = .ok (.iconst n, 1)) (k : GN p l e R s m args below meth c D T b nL em (pc + 1) lv (.int v :: st) M F) : GN p l e R s m args below meth c D T b nL em pc lv (st) M F := fun r M9 h9 H locs ls hl hP hS => lv_iconst hC.1 hC.2.1 hd hv (k r M9 h9 H locs ls hl hP hS)
theorem n_bipush {α : Type} {em : α → Option Value} {M : Me} {F : Option (α × Me)} (hC : CX p s m args meth c cc nL own ret D T) {n : Int} (v : Int32) (hv : (Int8.ofInt n).toInt32 = v) (hd : decode cc pc = .ok (.bipush n, 2)) (k : GN p l e R s m args below meth c D T b nL em (pc + 2) lv (.int v :: st) M F) : GN p l e R s m args below meth c D T b nL em pc lv (st) M F := fun r M9 h9 H locs ls hl hP hS => lv_bipush hC.1 hC.2.1 hd hv (k r M9 h9 H locs ls hl hP hS)
theorem n_sipush {α : Type} {em : α → Option Value} {M : Me} {F : Option (α × Me)} (hC : CX p s m args meth c cc nL own ret D T) {n : Int} (v : Int32) (hv : (Int16.ofInt n).toInt32 = v) (hd : decode cc pc = .ok (.sipush n, 3)) (k : GN p l e R s m args below meth c D T b nL em (pc + 3) lv (.int v :: st) M F) : GN p l e R s m args below meth c D T b nL em pc lv (st) M F := fun r M9 h9 H locs ls hl hP hS => lv_sipush hC.1 hC.2.1 hd hv (k r M9 h9 H locs ls hl hP hS)
theorem n_lconst {α : Type} {em : α → Option Value} {M : Me} {F : Option (α × Me)} (hC : CX p s m args meth c cc nL own ret D T) {n : Fin 2} (v : Int64) (hv : Int64.ofNat (n : Nat) = v) (hd : decode cc pc = .ok (.lconst n, 1)) (k : GN p l e R s m args below meth c D T b nL em (pc + 1) lv (.long v :: st) M F) : GN p l e R s m args below meth c D T b nL em pc lv (st) M F := fun r M9 h9 H locs ls hl hP hS => lv_lconst hC.1 hC.2.1 hd hv (k r M9 h9 H locs ls hl hP hS)
theorem n_ldc {α : Type} {em : α → Option Value} {M : Me} {F : Option (α × Me)} (hC : CX p s m args meth c cc nL own ret D T) {index : Nat} (v : Int32) (hw : Cond.constant own index v ∈ tb) (hd : decode cc pc = .ok (.ldc index, 2)) (k : GN p l e R s m args below meth c D T b nL em (pc + 2) lv (.int v :: st) M F) : GN p l e R s m args below meth c D T b nL em pc lv (st) M F := fun r M9 h9 H locs ls hl hP hS => lv_ldc hC.1 hC.2.1 hC.2.2.2.1 (hC.2.2.2.2.2.2.1 _ hw) hd (k r M9 h9 H locs ls hl hP hS)
theorem n_ldc2 {α : Type} {em : α → Option Value} {M : Me} {F : Option (α × Me)} (hC : CX p s m args meth c cc nL own ret D T) {index : Nat} (v : Int64) (hw : Cond.constantLong own index v ∈ tb) (hd : decode cc pc = .ok (.ldc2_w index, 3)) (k : GN p l e R s m args below meth c D T b nL em (pc + 3) lv (.long v :: st) M F) : GN p l e R s m args below meth c D T b nL em pc lv (st) M F := fun r M9 h9 H locs ls hl hP hS => lv_ldc2 hC.1 hC.2.1 hC.2.2.2.1 (hC.2.2.2.2.2.2.1 _ hw) hd (k r M9 h9 H locs ls hl hP hS)
theorem n_iload_n {α : Type} {em : α → Option Value} {M : Me} {F : Option (α × Me)} (hC : CX p s m args meth c cc nL own ret D T) {i : Fin 4} {x : Int32} (j : Nat) (hj : lv[j]? = some ((i : Nat), .int x)) (hd : decode cc pc = .ok (.iload_n i, 1)) (k : GN p l e R s m args below meth c D T b nL em (pc + 1) lv (.int x :: st) M F) : GN p l e R s m args below meth c D T b nL em pc lv (st) M F := fun r M9 h9 H locs ls hl hP hS => lv_iload_n hC.1 hC.2.1 hd rfl (lv_at hl j hj) (k r M9 h9 H locs ls hl hP hS)
theorem n_iload {α : Type} {em : α → Option Value} {M : Me} {F : Option (α × Me)} (hC : CX p s m args meth c cc nL own ret D T) {i : Nat} {x : Int32} (j : Nat) (hj : lv[j]? = some (i, .int x)) (hd : decode cc pc = .ok (.iload i, 2)) (k : GN p l e R s m args below meth c D T b nL em (pc + 2) lv (.int x :: st) M F) : GN p l e R s m args below meth c D T b nL em pc lv (st) M F := fun r M9 h9 H locs ls hl hP hS => lv_iload hC.1 hC.2.1 hd (lv_at hl j hj) (k r M9 h9 H locs ls hl hP hS)
theorem n_lload_n {α : Type} {em : α → Option Value} {M : Me} {F : Option (α × Me)} (hC : CX p s m args meth c cc nL own ret D T) {i : Fin 4} {x : Int64} (j : Nat) (hj : lv[j]? = some ((i : Nat), .long x)) (hd : decode cc pc = .ok (.lload_n i, 1)) (k : GN p l e R s m args below meth c D T b nL em (pc + 1) lv (.long x :: st) M F) : GN p l e R s m args below meth c D T b nL em pc lv (st) M F := fun r M9 h9 H locs ls hl hP hS => lv_lload_n hC.1 hC.2.1 hd rfl (lv_at hl j hj) (k r M9 h9 H locs ls hl hP hS)
theorem n_lload {α : Type} {em : α → Option Value} {M : Me} {F : Option (α × Me)} (hC : CX p s m args meth c cc nL own ret D T) {i : Nat} {x : Int64} (j : Nat) (hj : lv[j]? = some (i, .long x)) (hd : decode cc pc = .ok (.lload i, 2)) (k : GN p l e R s m args below meth c D T b nL em (pc + 2) lv (.long x :: st) M F) : GN p l e R s m args below meth c D T b nL em pc lv (st) M F := fun r M9 h9 H locs ls hl hP hS => lv_lload hC.1 hC.2.1 hd (lv_at hl j hj) (k r M9 h9 H locs ls hl hP hS)
theorem n_aload_n {α : Type} {em : α → Option Value} {M : Me} {F : Option (α × Me)} (hC : CX p s m args meth c cc nL own ret D T) {i : Fin 4} {x : Nat} (j : Nat) (hj : lv[j]? = some ((i : Nat), .ref x)) (hd : decode cc pc = .ok (.aload_n i, 1)) (k : GN p l e R s m args below meth c D T b nL em (pc + 1) lv (.ref x :: st) M F) : GN p l e R s m args below meth c D T b nL em pc lv (st) M F := fun r M9 h9 H locs ls hl hP hS => lv_aload_n hC.1 hC.2.1 hd rfl (lv_at hl j hj) (k r M9 h9 H locs ls hl hP hS)
theorem n_aload {α : Type} {em : α → Option Value} {M : Me} {F : Option (α × Me)} (hC : CX p s m args meth c cc nL own ret D T) {i : Nat} {x : Nat} (j : Nat) (hj : lv[j]? = some (i, .ref x)) (hd : decode cc pc = .ok (.aload i, 2)) (k : GN p l e R s m args below meth c D T b nL em (pc + 2) lv (.ref x :: st) M F) : GN p l e R s m args below meth c D T b nL em pc lv (st) M F := fun r M9 h9 H locs ls hl hP hS => lv_aload hC.1 hC.2.1 hd (lv_at hl j hj) (k r M9 h9 H locs ls hl hP hS)
theorem n_istore_n {α : Type} {em : α → Option Value} {M : Me} {F : Option (α × Me)} (hC : CX p s m args meth c cc nL own ret D T) {kk : Fin 4} {i : Nat} (hi : (kk : Nat) = i) {x : Int32} (lv2 : List (Nat × Value)) (hn : i < nL) (hv : (i, Value.int x) :: lv.filter (fun q => !(q.1 == i) && !(q.1 + 1 == i && q.2.category == 2)) = lv2) (hd : decode cc pc = .ok (.istore_n kk, 1)) (k : GN p l e R s m args below meth c D T b nL em (pc + 1) lv2 st M F) : GN p l e R s m args below meth c D T b nL em pc lv (.int x :: st) M F := fun r M9 h9 H locs ls hl hP hS => lv_istore_n hC.1 hC.2.1 hd hi hl hn hv (fun ls hl => k r M9 h9 H locs ls hl hP hS)
theorem n_istore {α : Type} {em : α → Option Value} {M : Me} {F : Option (α × Me)} (hC : CX p s m args meth c cc nL own ret D T) {i : Nat} {x : Int32} (lv2 : List (Nat × Value)) (hn : i < nL) (hv : (i, Value.int x) :: lv.filter (fun q => !(q.1 == i) && !(q.1 + 1 == i && q.2.category == 2)) = lv2) (hd : decode cc pc = .ok (.istore i, 2)) (k : GN p l e R s m args below meth c D T b nL em (pc + 2) lv2 st M F) : GN p l e R s m args below meth c D T b nL em pc lv (.int x :: st) M F := fun r M9 h9 H locs ls hl hP hS => lv_istore hC.1 hC.2.1 hd hl hn hv (fun ls hl => k r M9 h9 H locs ls hl hP hS)
theorem n_lstore_n {α : Type} {em : α → Option Value} {M : Me} {F : Option (α × Me)} (hC : CX p s m args meth c cc nL own ret D T) {kk : Fin 4} {i : Nat} (hi : (kk : Nat) = i) {x : Int64} (lv2 : List (Nat × Value)) (hn : i + 1 < nL) (hv : (i, Value.long x) :: lv.filter (fun q => !(q.1 == i) && (!(q.1 == i + 1) && !(q.1 + 1 == i && q.2.category == 2))) = lv2) (hd : decode cc pc = .ok (.lstore_n kk, 1)) (k : GN p l e R s m args below meth c D T b nL em (pc + 1) lv2 st M F) : GN p l e R s m args below meth c D T b nL em pc lv (.long x :: st) M F := fun r M9 h9 H locs ls hl hP hS => lv_lstore_n hC.1 hC.2.1 hd hi hl hn hv (fun ls hl => k r M9 h9 H locs ls hl hP hS)
theorem n_lstore {α : Type} {em : α → Option Value} {M : Me} {F : Option (α × Me)} (hC : CX p s m args meth c cc nL own ret D T) {i : Nat} {x : Int64} (lv2 : List (Nat × Value)) (hn : i + 1 < nL) (hv : (i, Value.long x) :: lv.filter (fun q => !(q.1 == i) && (!(q.1 == i + 1) && !(q.1 + 1 == i && q.2.category == 2))) = lv2) (hd : decode cc pc = .ok (.lstore i, 2)) (k : GN p l e R s m args below meth c D T b nL em (pc + 2) lv2 st M F) : GN p l e R s m args below meth c D T b nL em pc lv (.long x :: st) M F := fun r M9 h9 H locs ls hl hP hS => lv_lstore hC.1 hC.2.1 hd hl hn hv (fun ls hl => k r M9 h9 H locs ls hl hP hS)
theorem n_astore_n {α : Type} {em : α → Option Value} {M : Me} {F : Option (α × Me)} (hC : CX p s m args meth c cc nL own ret D T) {kk : Fin 4} {i : Nat} (hi : (kk : Nat) = i) {x : Nat} (lv2 : List (Nat × Value)) (hn : i < nL) (hv : (i, Value.ref x) :: lv.filter (fun q => !(q.1 == i) && !(q.1 + 1 == i && q.2.category == 2)) = lv2) (hd : decode cc pc = .ok (.astore_n kk, 1)) (k : GN p l e R s m args below meth c D T b nL em (pc + 1) lv2 st M F) : GN p l e R s m args below meth c D T b nL em pc lv (.ref x :: st) M F := fun r M9 h9 H locs ls hl hP hS => lv_astore_n hC.1 hC.2.1 hd hi hl hn hv (fun ls hl => k r M9 h9 H locs ls hl hP hS)
theorem n_astore {α : Type} {em : α → Option Value} {M : Me} {F : Option (α × Me)} (hC : CX p s m args meth c cc nL own ret D T) {i : Nat} {x : Nat} (lv2 : List (Nat × Value)) (hn : i < nL) (hv : (i, Value.ref x) :: lv.filter (fun q => !(q.1 == i) && !(q.1 + 1 == i && q.2.category == 2)) = lv2) (hd : decode cc pc = .ok (.astore i, 2)) (k : GN p l e R s m args below meth c D T b nL em (pc + 2) lv2 st M F) : GN p l e R s m args below meth c D T b nL em pc lv (.ref x :: st) M F := fun r M9 h9 H locs ls hl hP hS => lv_astore hC.1 hC.2.1 hd hl hn hv (fun ls hl => k r M9 h9 H locs ls hl hP hS)
theorem n_iinc {α : Type} {em : α → Option Value} {M : Me} {F : Option (α × Me)} (hC : CX p s m args meth c cc nL own ret D T) {i : Nat} {n : Int} {x : Int32} (v : Int32) (lv2 : List (Nat × Value)) (j : Nat) (hj : lv[j]? = some (i, .int x)) (hv : x + Int32.ofInt n = v) (hn : i < nL) (hl2 : (i, Value.int v) :: lv.filter (fun q => !(q.1 == i) && !(q.1 + 1 == i && q.2.category == 2)) = lv2) (hd : decode cc pc = .ok (.iinc i n, 3)) (k : GN p l e R s m args below meth c D T b nL em (pc + 3) lv2 st M F) : GN p l e R s m args below meth c D T b nL em pc lv st M F := fun r M9 h9 H locs ls hl hP hS => lv_iinc hC.1 hC.2.1 hd hl hj hv hn hl2 (fun ls hl => k r M9 h9 H locs ls hl hP hS)
theorem n_iadd {α : Type} {em : α → Option Value} {M : Me} {F : Option (α × Me)} (hC : CX p s m args meth c cc nL own ret D T) {x y : Int32} (hd : decode cc pc = .ok (.iadd, 1)) (k : GN p l e R s m args below meth c D T b nL em (pc + 1) lv (.int (x + y) :: st) M F) : GN p l e R s m args below meth c D T b nL em pc lv (.int y :: .int x :: st) M F := fun r M9 h9 H locs ls hl hP hS => lv_iadd hC.1 hC.2.1 hd (k r M9 h9 H locs ls hl hP hS)
theorem n_isub {α : Type} {em : α → Option Value} {M : Me} {F : Option (α × Me)} (hC : CX p s m args meth c cc nL own ret D T) {x y : Int32} (hd : decode cc pc = .ok (.isub, 1)) (k : GN p l e R s m args below meth c D T b nL em (pc + 1) lv (.int (x - y) :: st) M F) : GN p l e R s m args below meth c D T b nL em pc lv (.int y :: .int x :: st) M F := fun r M9 h9 H locs ls hl hP hS => lv_isub hC.1 hC.2.1 hd (k r M9 h9 H locs ls hl hP hS)
theorem n_imul {α : Type} {em : α → Option Value} {M : Me} {F : Option (α × Me)} (hC : CX p s m args meth c cc nL own ret D T) {x y : Int32} (hd : decode cc pc = .ok (.imul, 1)) (k : GN p l e R s m args below meth c D T b nL em (pc + 1) lv (.int (x * y) :: st) M F) : GN p l e R s m args below meth c D T b nL em pc lv (.int y :: .int x :: st) M F := fun r M9 h9 H locs ls hl hP hS => lv_imul hC.1 hC.2.1 hd (k r M9 h9 H locs ls hl hP hS)
theorem n_iand {α : Type} {em : α → Option Value} {M : Me} {F : Option (α × Me)} (hC : CX p s m args meth c cc nL own ret D T) {x y : Int32} (hd : decode cc pc = .ok (.iand, 1)) (k : GN p l e R s m args below meth c D T b nL em (pc + 1) lv (.int (x &&& y) :: st) M F) : GN p l e R s m args below meth c D T b nL em pc lv (.int y :: .int x :: st) M F := fun r M9 h9 H locs ls hl hP hS => lv_iand hC.1 hC.2.1 hd (k r M9 h9 H locs ls hl hP hS)
theorem n_ior {α : Type} {em : α → Option Value} {M : Me} {F : Option (α × Me)} (hC : CX p s m args meth c cc nL own ret D T) {x y : Int32} (hd : decode cc pc = .ok (.ior, 1)) (k : GN p l e R s m args below meth c D T b nL em (pc + 1) lv (.int (x ||| y) :: st) M F) : GN p l e R s m args below meth c D T b nL em pc lv (.int y :: .int x :: st) M F := fun r M9 h9 H locs ls hl hP hS => lv_ior hC.1 hC.2.1 hd (k r M9 h9 H locs ls hl hP hS)
theorem n_ixor {α : Type} {em : α → Option Value} {M : Me} {F : Option (α × Me)} (hC : CX p s m args meth c cc nL own ret D T) {x y : Int32} (hd : decode cc pc = .ok (.ixor, 1)) (k : GN p l e R s m args below meth c D T b nL em (pc + 1) lv (.int (x ^^^ y) :: st) M F) : GN p l e R s m args below meth c D T b nL em pc lv (.int y :: .int x :: st) M F := fun r M9 h9 H locs ls hl hP hS => lv_ixor hC.1 hC.2.1 hd (k r M9 h9 H locs ls hl hP hS)
theorem n_ladd {α : Type} {em : α → Option Value} {M : Me} {F : Option (α × Me)} (hC : CX p s m args meth c cc nL own ret D T) {x y : Int64} (hd : decode cc pc = .ok (.ladd, 1)) (k : GN p l e R s m args below meth c D T b nL em (pc + 1) lv (.long (x + y) :: st) M F) : GN p l e R s m args below meth c D T b nL em pc lv (.long y :: .long x :: st) M F := fun r M9 h9 H locs ls hl hP hS => lv_ladd hC.1 hC.2.1 hd (k r M9 h9 H locs ls hl hP hS)
theorem n_lsub {α : Type} {em : α → Option Value} {M : Me} {F : Option (α × Me)} (hC : CX p s m args meth c cc nL own ret D T) {x y : Int64} (hd : decode cc pc = .ok (.lsub, 1)) (k : GN p l e R s m args below meth c D T b nL em (pc + 1) lv (.long (x - y) :: st) M F) : GN p l e R s m args below meth c D T b nL em pc lv (.long y :: .long x :: st) M F := fun r M9 h9 H locs ls hl hP hS => lv_lsub hC.1 hC.2.1 hd (k r M9 h9 H locs ls hl hP hS)
theorem n_lmul {α : Type} {em : α → Option Value} {M : Me} {F : Option (α × Me)} (hC : CX p s m args meth c cc nL own ret D T) {x y : Int64} (hd : decode cc pc = .ok (.lmul, 1)) (k : GN p l e R s m args below meth c D T b nL em (pc + 1) lv (.long (x * y) :: st) M F) : GN p l e R s m args below meth c D T b nL em pc lv (.long y :: .long x :: st) M F := fun r M9 h9 H locs ls hl hP hS => lv_lmul hC.1 hC.2.1 hd (k r M9 h9 H locs ls hl hP hS)
theorem n_land {α : Type} {em : α → Option Value} {M : Me} {F : Option (α × Me)} (hC : CX p s m args meth c cc nL own ret D T) {x y : Int64} (hd : decode cc pc = .ok (.land, 1)) (k : GN p l e R s m args below meth c D T b nL em (pc + 1) lv (.long (x &&& y) :: st) M F) : GN p l e R s m args below meth c D T b nL em pc lv (.long y :: .long x :: st) M F := fun r M9 h9 H locs ls hl hP hS => lv_land hC.1 hC.2.1 hd (k r M9 h9 H locs ls hl hP hS)
theorem n_lor {α : Type} {em : α → Option Value} {M : Me} {F : Option (α × Me)} (hC : CX p s m args meth c cc nL own ret D T) {x y : Int64} (hd : decode cc pc = .ok (.lor, 1)) (k : GN p l e R s m args below meth c D T b nL em (pc + 1) lv (.long (x ||| y) :: st) M F) : GN p l e R s m args below meth c D T b nL em pc lv (.long y :: .long x :: st) M F := fun r M9 h9 H locs ls hl hP hS => lv_lor hC.1 hC.2.1 hd (k r M9 h9 H locs ls hl hP hS)
theorem n_lxor {α : Type} {em : α → Option Value} {M : Me} {F : Option (α × Me)} (hC : CX p s m args meth c cc nL own ret D T) {x y : Int64} (hd : decode cc pc = .ok (.lxor, 1)) (k : GN p l e R s m args below meth c D T b nL em (pc + 1) lv (.long (x ^^^ y) :: st) M F) : GN p l e R s m args below meth c D T b nL em pc lv (.long y :: .long x :: st) M F := fun r M9 h9 H locs ls hl hP hS => lv_lxor hC.1 hC.2.1 hd (k r M9 h9 H locs ls hl hP hS)
theorem n_i2l {α : Type} {em : α → Option Value} {M : Me} {F : Option (α × Me)} (hC : CX p s m args meth c cc nL own ret D T) {x : Int32} (hd : decode cc pc = .ok (.i2l, 1)) (k : GN p l e R s m args below meth c D T b nL em (pc + 1) lv (.long x.toInt64 :: st) M F) : GN p l e R s m args below meth c D T b nL em pc lv (.int x :: st) M F := fun r M9 h9 H locs ls hl hP hS => lv_i2l hC.1 hC.2.1 hd rfl (k r M9 h9 H locs ls hl hP hS)
theorem n_l2i {α : Type} {em : α → Option Value} {M : Me} {F : Option (α × Me)} (hC : CX p s m args meth c cc nL own ret D T) {x : Int64} (hd : decode cc pc = .ok (.l2i, 1)) (k : GN p l e R s m args below meth c D T b nL em (pc + 1) lv (.int x.toInt32 :: st) M F) : GN p l e R s m args below meth c D T b nL em pc lv (.long x :: st) M F := fun r M9 h9 H locs ls hl hP hS => lv_l2i hC.1 hC.2.1 hd rfl (k r M9 h9 H locs ls hl hP hS)
theorem n_i2b {α : Type} {em : α → Option Value} {M : Me} {F : Option (α × Me)} (hC : CX p s m args meth c cc nL own ret D T) {x : Int32} (hd : decode cc pc = .ok (.i2b, 1)) (k : GN p l e R s m args below meth c D T b nL em (pc + 1) lv (.int x.toInt8.toInt32 :: st) M F) : GN p l e R s m args below meth c D T b nL em pc lv (.int x :: st) M F := fun r M9 h9 H locs ls hl hP hS => lv_i2b hC.1 hC.2.1 hd rfl (k r M9 h9 H locs ls hl hP hS)
/-- shifts, as the machine has them -/
def iUshr (x y : Int32) : Int32 := (x.toUInt32 >>> (y.toUInt32 &&& Int32.toUInt32 31)).toInt32
def lUshr (x : Int64) (y : Int32) : Int64 := (x.toUInt64 >>> (y.toInt64.toUInt64 &&& Int64.toUInt64 63)).toInt64
def lShl (x : Int64) (y : Int32) : Int64 := x <<< (y.toInt64 &&& 63)
def lShr (x : Int64) (y : Int32) : Int64 := x >>> (y.toInt64 &&& 63)
def iRem (x y : Int32) : Int32 := x - x / y * y
theorem n_iushr {α : Type} {em : α → Option Value} {M : Me} {F : Option (α × Me)} (hC : CX p s m args meth c cc nL own ret D T) {x y : Int32} (hd : decode cc pc = .ok (.iushr, 1)) (k : GN p l e R s m args below meth c D T b nL em (pc + 1) lv (.int (iUshr x y) :: st) M F) : GN p l e R s m args below meth c D T b nL em pc lv (.int y :: .int x :: st) M F := fun r M9 h9 H locs ls hl hP hS => lv_iushr hC.1 hC.2.1 hd rfl (k r M9 h9 H locs ls hl hP hS)
theorem n_lushr {α : Type} {em : α → Option Value} {M : Me} {F : Option (α × Me)} (hC : CX p s m args meth c cc nL own ret D T) {x : Int64} {y : Int32} (hd : decode cc pc = .ok (.lushr, 1)) (k : GN p l e R s m args below meth c D T b nL em (pc + 1) lv (.long (lUshr x y) :: st) M F) : GN p l e R s m args below meth c D T b nL em pc lv (.int y :: .long x :: st) M F := fun r M9 h9 H locs ls hl hP hS => lv_lushr hC.1 hC.2.1 hd rfl (k r M9 h9 H locs ls hl hP hS)
theorem n_lshl {α : Type} {em : α → Option Value} {M : Me} {F : Option (α × Me)} (hC : CX p s m args meth c cc nL own ret D T) {x : Int64} {y : Int32} (hd : decode cc pc = .ok (.lshl, 1)) (k : GN p l e R s m args below meth c D T b nL em (pc + 1) lv (.long (lShl x y) :: st) M F) : GN p l e R s m args below meth c D T b nL em pc lv (.int y :: .long x :: st) M F := fun r M9 h9 H locs ls hl hP hS => lv_lshl hC.1 hC.2.1 hd rfl (k r M9 h9 H locs ls hl hP hS)
theorem n_lshr {α : Type} {em : α → Option Value} {M : Me} {F : Option (α × Me)} (hC : CX p s m args meth c cc nL own ret D T) {x : Int64} {y : Int32} (hd : decode cc pc = .ok (.lshr, 1)) (k : GN p l e R s m args below meth c D T b nL em (pc + 1) lv (.long (lShr x y) :: st) M F) : GN p l e R s m args below meth c D T b nL em pc lv (.int y :: .long x :: st) M F := fun r M9 h9 H locs ls hl hP hS => lv_lshr hC.1 hC.2.1 hd rfl (k r M9 h9 H locs ls hl hP hS)
theorem n_dup {α : Type} {em : α → Option Value} {M : Me} {F : Option (α × Me)} (hC : CX p s m args meth c cc nL own ret D T) {v : Value} (hv : v.category = 1) (hd : decode cc pc = .ok (.dup, 1)) (k : GN p l e R s m args below meth c D T b nL em (pc + 1) lv (v :: v :: st) M F) : GN p l e R s m args below meth c D T b nL em pc lv (v :: st) M F := fun r M9 h9 H locs ls hl hP hS => lv_dup hC.1 hC.2.1 hd hv (k r M9 h9 H locs ls hl hP hS)
theorem n_pop {α : Type} {em : α → Option Value} {M : Me} {F : Option (α × Me)} (hC : CX p s m args meth c cc nL own ret D T) {v : Value} (hv : v.category = 1) (hd : decode cc pc = .ok (.pop, 1)) (k : GN p l e R s m args below meth c D T b nL em (pc + 1) lv (st) M F) : GN p l e R s m args below meth c D T b nL em pc lv (v :: st) M F := fun r M9 h9 H locs ls hl hP hS => lv_pop hC.1 hC.2.1 hd hv (k r M9 h9 H locs ls hl hP hS)
theorem n_dup2 {α : Type} {em : α → Option Value} {M : Me} {F : Option (α × Me)} (hC : CX p s m args meth c cc nL own ret D T) {v w : Value} (hv : v.category = 1) (hw : w.category = 1) (hd : decode cc pc = .ok (.dup2, 1)) (k : GN p l e R s m args below meth c D T b nL em (pc + 1) lv (v :: w :: v :: w :: st) M F) : GN p l e R s m args below meth c D T b nL em pc lv (v :: w :: st) M F := fun r M9 h9 H locs ls hl hP hS => lv_dup2_11 hC.1 hC.2.1 hd hv hw (k r M9 h9 H locs ls hl hP hS)
theorem n_goto {α : Type} {em : α → Option Value} {M : Me} {F : Option (α × Me)} (hC : CX p s m args meth c cc nL own ret D T) {off : Int} {tgt : Nat} (ht : (pc : Int) + off = (tgt : Int)) (hd : decode cc pc = .ok (.goto off, 3)) (k : GN p l e R s m args below meth c D T b nL em (tgt) lv (st) M F) : GN p l e R s m args below meth c D T b nL em pc lv (st) M F := fun r M9 h9 H locs ls hl hP hS => lv_goto hC.1 hC.2.1 hd ht (k r M9 h9 H locs ls hl hP hS)
end GR
