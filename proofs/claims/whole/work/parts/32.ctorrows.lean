/-- one cell more, of its kind's first values -/
def al (M : MG) : MG := (va_up M.1 M.2.2.2 (fun _ => 0), va_up M.2.1 M.2.2.2 (fun _ => 0), va_up M.2.2.1 M.2.2.2 (fun _ => none), M.2.2.2 + 1)
def AO (U : State) : Prop := va_AO RX0 U ∧ va_AO RX2 U
theorem AO.moved {u U : State} (hvm : u.vm.Alike U.vm) (h : AO u) : AO U := ⟨va_AO.moved hvm h.1, va_AO.moved hvm h.2⟩
theorem wsM_al {T : Nat → ClassId} {b : Nat} {M : MG} : wsM T b (al M) = wsM T b M ++ [(b + M.2.2.2, cel T b (al M) M.2.2.2)] := by
  unfold wsM
  show (List.range (M.2.2.2 + 1)).map _ = _
  rw [List.range_succ, List.map_append]
  congr 1
  apply List.map_congr_left
  intro a ha
  have h1 : a ≠ M.2.2.2 := by
    have := List.mem_range.mp ha
    omega
  rw [cel_oth (M := M) (M' := al M) (va_up_ne _ _ h1) (va_up_ne _ _ h1) (va_up_ne _ _ h1)]
theorem noFD : ∀ ci, ci < 6 → ∀ k, k < 44 → tyf ci k ≠ .float ∧ tyf ci k ≠ .double := by decide +kernel
theorem nfl44 : ∀ ci, ci < 6 → nfl ci ≤ 44 := by decide +kernel
theorem fvl_new {b : Nat} {M : MG} {ty : FieldType} (k : Nat) (h1 : ty ≠ .float) (h2 : ty ≠ .double) : fvl b (al M) M.2.2.2 ty k = defaultValue ty := by
  unfold fvl al
  simp only [va_up_self]
  cases ty <;> first | rfl | (exact absurd rfl h1) | (exact absurd rfl h2)
section CR
variable {p : Program} {l : Launch} {e : Env} {R : Room} {s : State} {m : MethodId} {args : Array Value} {below : List Frame} {meth : Method} {c : Code} {D : va_G} {T : Nat → ClassId} {b nL : Nat} {cc : ByteArray} {own : String} {ret : Option FieldType} {Q : State → Prop} {pc : Nat} {lv : List (Nat × Value)} {st : List Value}
theorem W_size {cells slots : Nat} {H : Heap} {locs : List Loc} {g : JFrame} (k : H.size ≤ s.heap.size + cells → W p l e R s m args below meth c H locs cells slots Q g) : W p l e R s m args below meth c H locs cells slots Q g := fun T9 hT X => k (by rw [← hT]; exact X.same.2.2.1) T9 hT X
theorem RP_size {cells n0 : Nat} {M : MG} {H : Heap} {locs : List Loc} (hP : RP D T b M H) (hS : va_S (fun q => b ≤ q) s.heap H locs) (hb0 : s.heap.size = b + n0) (hn : M.2.2.2 = n0 + cells) (hle : H.size ≤ s.heap.size + cells) : H.size = b + M.2.2.2 := by
  by_cases h0 : cells = 0
  · have := hS.1
    omega
  · have h1 := (hP (M.2.2.2 - 1) _ (wsM_at (by omega))).lt
    have h2 : b + (M.2.2.2 - 1) < H.size := h1
    omega
theorem GG_new {M : MG} {ci N index cells slots n0 : Nat} {C : String} {Tt : u_T} (hC : CX p s m args meth c cc nL own ret D T) (hCL : CL ci C Tt N) (hb0 : s.heap.size = b + n0) (hn : M.2.2.2 = n0 + cells) (hk : kd M.2.2.2 = ci) (w1 : Cond.classLink own index C ∈ tb) (w2 : Cond.instantiable C N ∈ tb) (w3 : Cond.initialized C ∈ tb) (h1 : cells + 1 ≤ R.cells) (h2 : slots + N ≤ R.slots) (hd : decode cc pc = .ok (.new index, 3))
    (kk : GG p l e R s m args below meth c D T b nL (cells + 1) (slots + N) Q (pc + 3) lv (.ref (b + M.2.2.2) :: st) (al M)) : GG p l e R s m args below meth c D T b nL cells slots Q pc lv st M := by
  intro H locs ls hl hP hS
  refine W_size fun hle => ?_
  have hz : H.size = b + M.2.2.2 := RP_size hP hS hb0 hn hle
  obtain ⟨c1, c2, c3, c4, c5, c6⟩ := hCL
  have hts := hC.2.2.2.2.2.2.1
  have hKn := hC.2.2.2.2.2.2.2.1.1 ci _ c1
  refine W.newcK hC.1 hC.2.1 hC.2.2.2.1 (hts _ w1) (hts _ w2) (hts _ w3) rfl hd h1 h2 hKn.2.1 rfl fun H1 kC hkC e1 z1 o1 => ?_
  refine W.eq (g2 := F0 m (pc + 3) ls (.ref (b + M.2.2.2) :: st)) (by rw [hz]) ?_
  refine kk H1 locs ls hl ?_ ⟨Nat.le_trans hS.1 (by omega), fun x h1 h2 => (o1 x (Nat.lt_of_lt_of_le h1 hS.1)).trans (hS.2.1 x h1 h2), hS.2.2⟩
  unfold RP
  rw [wsM_al]
  refine va_P.app (va_P.kept hP (fun k x hx => o1 x.1 ((hP k x hx).lt))) (fun k x hx => ?_)
  have hz1 : k < 1 := (List.getElem?_eq_some_iff.mp hx).1
  rw [show k = 0 by omega] at hx
  cases hx
  rw [cel_obj hk c4]
  refine ⟨_, c1, (u_born (tyf ci) hts c2 hKn hkC (by rw [← hz]; exact e1) c5).to (fun j hj => ?_)⟩
  unfold vp_V
  have hj2 : j < nfl ci := by rw [c3]; exact hj
  have h44 := nfl44 ci c4
  rw [List.getD_eq_getElem?_getD, fs_at hj2, fvl_new j (noFD ci c4 j (by omega)).1 (noFD ci c4 j (by omega)).2]
  rfl
theorem GG_newa {M : MG} {ci cells slots n0 N : Nat} {ty : FieldType} {atype : ArrayType} {n : Int32} (hC : CX p s m args meth c cc nL own ret D T) (hb0 : s.heap.size = b + n0) (hn : M.2.2.2 = n0 + cells) (hk : kd M.2.2.2 = ci) (hc : (ci = 6 ∧ ty = .byte) ∨ (ci = 7 ∧ ty = .int) ∨ (ci = 8 ∧ ty = .boolean)) (hty : newarray.typeOf atype = ty) (hN : n.toNatClampNeg = N) (hn0 : ¬ n < 0) (hln : ln M.2.2.2 = N) (w1 : Cond.arrayClass ty ∈ tb) (hby : N * componentBytes ty ≤ 536870912) (h1 : cells + 1 ≤ R.cells) (h2 : slots + N ≤ R.slots) (hd : decode cc pc = .ok (.newarray atype, 2))
    (kk : GG p l e R s m args below meth c D T b nL (cells + 1) (slots + N) Q (pc + 2) lv (.ref (b + M.2.2.2) :: st) (al M)) : GG p l e R s m args below meth c D T b nL cells slots Q pc lv (.int n :: st) M := by
  intro H locs ls hl hP hS
  subst hty
  refine W_size fun hle => ?_
  have hz : H.size = b + M.2.2.2 := RP_size hP hS hb0 hn hle
  have hts := hC.2.2.2.2.2.2.1
  have hK := hC.2.2.2.2.2.2.2.1
  refine va_newaK hC.1 hC.2.1 (hts _ w1) rfl hd rfl hn0 hN hby h1 h2 hz fun H1 cA e1 z1 o1 hAr hNm => ?_
  have hcA : T ci = cA := by
    rcases hc with ⟨q, qt⟩ | ⟨q, qt⟩ | ⟨q, qt⟩
    · subst q
      have h3 := (hK.2 0 (T 6, .byte) rfl).2
      rw [qt] at hNm
      exact Option.some.inj (h3.symm.trans hNm)
    · subst q
      have h3 := (hK.2 1 (T 7, .int) rfl).2
      rw [qt] at hNm
      exact Option.some.inj (h3.symm.trans hNm)
    · subst q
      have h3 := (hK.2 2 (T 8, .boolean) rfl).2
      rw [qt] at hNm
      exact Option.some.inj (h3.symm.trans hNm)
  refine kk H1 locs ls hl ?_ ⟨Nat.le_trans hS.1 (by omega), fun x h1 h2 => (o1 x (by have := hS.1; omega)).trans (hS.2.1 x h1 h2), hS.2.2⟩
  unfold RP
  rw [wsM_al]
  refine va_P.app (va_P.kept hP (fun k x hx => o1 x.1 (by rw [← hz]; exact (hP k x hx).lt))) (fun k x hx => ?_)
  have hz1 : k < 1 := (List.getElem?_eq_some_iff.mp hx).1
  rw [show k = 0 by omega] at hx
  cases hx
  rw [cel_arr hk (by omega) (by omega), hcA, hln]
  show H1[b + M.2.2.2]? = some (vp_cell cA (N, .inl (va_up M.1 M.2.2.2 (fun _ => 0) M.2.2.2)))
  rw [e1, va_up_self, vp_cell_i]
  rcases hc with ⟨q, qt⟩ | ⟨q, qt⟩ | ⟨q, qt⟩ <;> rw [qt] <;> rfl
theorem GG_anew {M : MG} {ci cells slots n0 N index : Nat} {C : String} {n : Int32} (hC : CX p s m args meth c cc nL own ret D T) (hA : va_AO C s) (hb0 : s.heap.size = b + n0) (hn : M.2.2.2 = n0 + cells) (hk : kd M.2.2.2 = ci) (hc : (ci = 9 ∧ C = RX0) ∨ (ci = 10 ∧ C = RX2)) (hN : n.toNatClampNeg = N) (hn0 : ¬ n < 0) (hln : ln M.2.2.2 = N) (w1 : Cond.classLink own index C ∈ tb) (hby : N * 4 ≤ 536870912) (h1 : cells + 1 ≤ R.cells) (h2 : slots + N ≤ R.slots) (hd : decode cc pc = .ok (.anewarray index, 3))
    (kk : GG p l e R s m args below meth c D T b nL (cells + 1) (slots + N) Q (pc + 3) lv (.ref (b + M.2.2.2) :: st) (al M)) : GG p l e R s m args below meth c D T b nL cells slots Q pc lv (.int n :: st) M := by
  intro H locs ls hl hP hS
  subst hN
  refine W_size fun hle => ?_
  have hz : H.size = b + M.2.2.2 := RP_size hP hS hb0 hn hle
  have hts := hC.2.2.2.2.2.2.1
  have hK := hC.2.2.2.2.2.2.2.1
  refine W.anew hC.1 hC.2.1 hC.2.2.2.1 (hts _ w1) (va_AO.use hA) rfl hd rfl hn0 hby h1 h2 fun cA kA comp q1 q2 q3 q4 => ?_
  refine W.eq (g2 := F0 m (pc + 3) ls (.ref (b + M.2.2.2) :: st)) (by rw [hz]) ?_
  have hcA : T ci = cA := by
    rcases hc with ⟨q, qt⟩ | ⟨q, qt⟩
    · subst q
      subst qt
      obtain ⟨_, _, _, _, _, h3⟩ := (hK.2 3 (T 9, .object RX0) rfl).2
      exact Option.some.inj (h3.symm.trans q1)
    · subst q
      subst qt
      obtain ⟨_, _, _, _, _, h3⟩ := (hK.2 4 (T 10, .object RX2) rfl).2
      exact Option.some.inj (h3.symm.trans q1)
  have o1 : ∀ x, x < H.size → (H.push { cls := cA, slots := Array.replicate n.toNatClampNeg .null, vm := .none })[x]? = H[x]? := fun x hx => by rw [Array.getElem?_push, if_neg (Nat.ne_of_lt hx)]
  refine kk _ locs ls hl ?_ ⟨Nat.le_trans hS.1 (by simp), fun x h1 h2 => (o1 x (Nat.lt_of_lt_of_le h1 hS.1)).trans (hS.2.1 x h1 h2), hS.2.2⟩
  unfold RP
  rw [wsM_al]
  refine va_P.app (va_P.kept hP (fun k x hx => o1 x.1 ((hP k x hx).lt))) (fun k x hx => ?_)
  have hz1 : k < 1 := (List.getElem?_eq_some_iff.mp hx).1
  rw [show k = 0 by omega] at hx
  cases hx
  rw [cel_ref hk (by omega), hcA, hln]
  show (H.push _)[b + M.2.2.2]? = some (vp_cell cA (n.toNatClampNeg, .inr (.inr (.inr (.inr (fun j => (va_up M.2.2.1 M.2.2.2 (fun _ => none) M.2.2.2 j).map (fun q => b + q)))))))
  rw [← hz, va_up_self, arrV_new]
  simp
  rfl
theorem obG_at {T : Nat → ClassId} {b : Nat} {M : MG} {a ci : Nat} (ha : a < M.2.2.2) (hk : kd a = ci) (hc : ci < 6) : (wsM T b M)[a]? = some (b + a, .inr (ci, (List.range (nfl ci)).map (fun k => fvl b M a (tyf ci k) k))) := by
  rw [wsM_at ha, cel_obj hk hc]
/-- a reference's own row of one object -/
theorem GG_putR {M : MG} {ci N index cells slots q : Nat} {C : String} {Tt : u_T} (hC : CX p s m args meth c cc nL own ret D T) (hin : meth.name = "<init>") (hCL : CL ci C Tt N) {a : Nat} (ha : a < M.2.2.2) (hk : kd a = ci) (k : Nat) (hkN : k < N) (hn : (Tt k).1 = C) (hoc : C = own) (hty : (∃ z, tyf ci k = .object z) ∨ ∃ z, tyf ci k = .array z) (hfin : (Tt k).2.2.2 = true) (hw : Cond.fieldLink own index C (Tt k).2.1 (Tt k).2.2.1 ∈ tb) (hd : decode cc pc = .ok (.putfield index, 3))
    (kk : GG p l e R s m args below meth c D T b nL cells slots Q (pc + 3) lv st (sGR M a k (some q))) : GG p l e R s m args below meth c D T b nL cells slots Q pc lv (.ref (b + q) :: .ref (b + a) :: st) M := by
  intro H locs ls hl hP hS
  obtain ⟨c1, c2, c3, c4, c5, c6⟩ := hCL
  have hts := hC.2.2.2.2.2.2.1
  refine va_putF hC.1 hC.2.1 hts c2 (tyf ci) c5 c6 hC.2.2.2.1 hC.2.2.2.2.2.2.2.1 hP wsM_D hS a (obG_at ha hk c4) c1 k hkN (hts _ hw) (fun x h => by rw [hn] at h; exact h) hfin hin (hn.trans hoc) (c5 k hkN) (by rcases hty with ⟨z, h⟩ | ⟨z, h⟩ <;> rw [h] <;> rfl) (by rcases hty with ⟨z, h⟩ | ⟨z, h⟩ <;> rw [h] <;> rfl) (by simpa [c3] using hkN) hd (fun H1 locs1 hP1 hD1 hS1 => ?_)
  refine kk H1 locs1 ls hl ?_ hS1
  rw [wsM_set (M := M) (M' := sGR M a k (some q)) rfl ?_ ?_] at hP1
  · exact hP1
  · rw [cel_obj hk c4]
    refine congrArg (fun z => Sum.inr (ci, z)) (map_set (fun j => fvl b M a (tyf ci j) j) (fun j => fvl b (sGR M a k (some q)) a (tyf ci j) j) _ _ _ ?_ ?_)
    · show fvl b (sGR M a k (some q)) a (tyf ci k) k = _
      rcases hty with ⟨z, h⟩ | ⟨z, h⟩ <;> rw [h] <;> show va_rf ((up2 M.2.2.1 a k (some q) a k).map _) = _ <;> rw [up2_s] <;> rfl
    · intro j hj
      show fvl b (sGR M a k (some q)) a (tyf ci j) j = fvl b M a (tyf ci j) j
      unfold fvl
      have e1 : (sGR M a k (some q)).2.2.1 a j = M.2.2.1 a j := up2_k _ _ hj
      split <;> first | rfl | (rw [e1])
  · intro z hz
    exact cel_oth rfl rfl (up2_r _ _ _ hz)

theorem GG_putI {M : MG} {ci N index cells slots : Nat} {x : Int32} {C : String} {Tt : u_T} (hC : CX p s m args meth c cc nL own ret D T) (hCL : CL ci C Tt N) {a : Nat} (ha : a < M.2.2.2) (hk : kd a = ci) (k : Nat) (hkN : k < N) (hn : (Tt k).1 = C) (hty : tyf ci k = .int) (hfin : (Tt k).2.2.2 = false) (hw : Cond.fieldLink own index C (Tt k).2.1 (Tt k).2.2.1 ∈ tb) (hd : decode cc pc = .ok (.putfield index, 3))
    (kk : GG p l e R s m args below meth c D T b nL cells slots Q (pc + 3) lv st (sGI M a k x)) : GG p l e R s m args below meth c D T b nL cells slots Q pc lv (.int x :: .ref (b + a) :: st) M := by
  intro H locs ls hl hP hS
  obtain ⟨c1, c2, c3, c4, c5, c6⟩ := hCL
  have hts := hC.2.2.2.2.2.2.1
  refine va_put hC.1 hC.2.1 hts c2 (tyf ci) c5 c6 hC.2.2.2.1 hC.2.2.2.2.2.2.2.1 hP wsM_D hS a (obG_at ha hk c4) c1 k hkN (hts _ hw) (fun x h => by rw [hn] at h; exact h) hfin (c5 k hkN) (by rw [hty]; rfl) (by rw [hty]; rfl) (by simpa [c3] using hkN) hd (fun H1 locs1 hP1 hD1 hS1 => ?_)
  refine kk H1 locs1 ls hl ?_ hS1
  rw [wsM_set (M := M) (M' := sGI M a k x) rfl ?_ ?_] at hP1
  · exact hP1
  · rw [cel_obj hk c4]
    refine congrArg (fun z => Sum.inr (ci, z)) (map_set (fun j => fvl b M a (tyf ci j) j) (fun j => fvl b (sGI M a k x) a (tyf ci j) j) _ _ _ ?_ ?_)
    · show fvl b (sGI M a k x) a (tyf ci k) k = _
      rw [hty]
      show Value.int (up2 M.1 a k x a k) = _
      rw [up2_s]
    · intro j hj
      show fvl b (sGI M a k x) a (tyf ci j) j = fvl b M a (tyf ci j) j
      unfold fvl
      have e1 : (sGI M a k x).1 a j = M.1 a j := up2_k _ _ hj
      split <;> first | rfl | (rw [e1])
  · intro z hz
    exact cel_oth (up2_r _ _ _ hz) rfl rfl
theorem GG_putL {M : MG} {ci N index cells slots : Nat} {x : Int64} {C : String} {Tt : u_T} (hC : CX p s m args meth c cc nL own ret D T) (hCL : CL ci C Tt N) {a : Nat} (ha : a < M.2.2.2) (hk : kd a = ci) (k : Nat) (hkN : k < N) (hn : (Tt k).1 = C) (hty : tyf ci k = .long) (hfin : (Tt k).2.2.2 = false) (hw : Cond.fieldLink own index C (Tt k).2.1 (Tt k).2.2.1 ∈ tb) (hd : decode cc pc = .ok (.putfield index, 3))
    (kk : GG p l e R s m args below meth c D T b nL cells slots Q (pc + 3) lv st (sGL M a k x)) : GG p l e R s m args below meth c D T b nL cells slots Q pc lv (.long x :: .ref (b + a) :: st) M := by
  intro H locs ls hl hP hS
  obtain ⟨c1, c2, c3, c4, c5, c6⟩ := hCL
  have hts := hC.2.2.2.2.2.2.1
  refine va_put hC.1 hC.2.1 hts c2 (tyf ci) c5 c6 hC.2.2.2.1 hC.2.2.2.2.2.2.2.1 hP wsM_D hS a (obG_at ha hk c4) c1 k hkN (hts _ hw) (fun x h => by rw [hn] at h; exact h) hfin (c5 k hkN) (by rw [hty]; rfl) (by rw [hty]; rfl) (by simpa [c3] using hkN) hd (fun H1 locs1 hP1 hD1 hS1 => ?_)
  refine kk H1 locs1 ls hl ?_ hS1
  rw [wsM_set (M := M) (M' := sGL M a k x) rfl ?_ ?_] at hP1
  · exact hP1
  · rw [cel_obj hk c4]
    refine congrArg (fun z => Sum.inr (ci, z)) (map_set (fun j => fvl b M a (tyf ci j) j) (fun j => fvl b (sGL M a k x) a (tyf ci j) j) _ _ _ ?_ ?_)
    · show fvl b (sGL M a k x) a (tyf ci k) k = _
      rw [hty]
      show Value.long (up2 M.2.1 a k x a k) = _
      rw [up2_s]
    · intro j hj
      show fvl b (sGL M a k x) a (tyf ci j) j = fvl b M a (tyf ci j) j
      unfold fvl
      have e1 : (sGL M a k x).2.1 a j = M.2.1 a j := up2_k _ _ hj
      split <;> first | rfl | (rw [e1])
  · intro z hz
    exact cel_oth rfl (up2_r _ _ _ hz) rfl
theorem GG_putZ {M : MG} {ci N index cells slots : Nat} {x : Int32} {C : String} {Tt : u_T} (hC : CX p s m args meth c cc nL own ret D T) (hCL : CL ci C Tt N) {a : Nat} (ha : a < M.2.2.2) (hk : kd a = ci) (k : Nat) (hkN : k < N) (hn : (Tt k).1 = C) (hty : tyf ci k = .boolean) (hfin : (Tt k).2.2.2 = false) (hw : Cond.fieldLink own index C (Tt k).2.1 (Tt k).2.2.1 ∈ tb) (hz0 : x = 0 ∨ x = 1) (hd : decode cc pc = .ok (.putfield index, 3))
    (kk : GG p l e R s m args below meth c D T b nL cells slots Q (pc + 3) lv st (sGI M a k x)) : GG p l e R s m args below meth c D T b nL cells slots Q pc lv (.int x :: .ref (b + a) :: st) M := by
  intro H locs ls hl hP hS
  obtain ⟨c1, c2, c3, c4, c5, c6⟩ := hCL
  have hts := hC.2.2.2.2.2.2.1
  refine va_put hC.1 hC.2.1 hts c2 (tyf ci) c5 c6 hC.2.2.2.1 hC.2.2.2.2.2.2.2.1 hP wsM_D hS a (obG_at ha hk c4) c1 k hkN (hts _ hw) (fun x h => by rw [hn] at h; exact h) hfin (c5 k hkN) (by rw [hty]; rcases hz0 with q | q <;> subst q <;> rfl) (by rw [hty]; rcases hz0 with q | q <;> subst q <;> rfl) (by simpa [c3] using hkN) hd (fun H1 locs1 hP1 hD1 hS1 => ?_)
  refine kk H1 locs1 ls hl ?_ hS1
  rw [wsM_set (M := M) (M' := sGI M a k x) rfl ?_ ?_] at hP1
  · exact hP1
  · rw [cel_obj hk c4]
    refine congrArg (fun z => Sum.inr (ci, z)) (map_set (fun j => fvl b M a (tyf ci j) j) (fun j => fvl b (sGI M a k x) a (tyf ci j) j) _ _ _ ?_ ?_)
    · show fvl b (sGI M a k x) a (tyf ci k) k = _
      rw [hty]
      show Value.int (up2 M.1 a k x a k) = _
      rw [up2_s]
    · intro j hj
      show fvl b (sGI M a k x) a (tyf ci j) j = fvl b M a (tyf ci j) j
      unfold fvl
      have e1 : (sGI M a k x).1 a j = M.1 a j := up2_k _ _ hj
      split <;> first | rfl | (rw [e1])
  · intro z hz
    exact cel_oth (up2_r _ _ _ hz) rfl rfl
theorem GG_getR {M : MG} {ci N index cells slots q : Nat} {C : String} {Tt : u_T} (hC : CX p s m args meth c cc nL own ret D T) (hCL : CL ci C Tt N) {a : Nat} (ha : a < M.2.2.2) (hk : kd a = ci) (k : Nat) (hkN : k < N) (hn : (Tt k).1 = C) (hty : (∃ z, tyf ci k = .object z) ∨ ∃ z, tyf ci k = .array z) (hw : Cond.fieldLink own index C (Tt k).2.1 (Tt k).2.2.1 ∈ tb) (hq : M.2.2.1 a k = some q) (hd : decode cc pc = .ok (.getfield index, 3))
    (kk : GG p l e R s m args below meth c D T b nL cells slots Q (pc + 3) lv (.ref (b + q) :: st) M) : GG p l e R s m args below meth c D T b nL cells slots Q pc lv (.ref (b + a) :: st) M := by
  intro H locs ls hl hP hS
  obtain ⟨c1, c2, c3, c4, c5, c6⟩ := hCL
  have hts := hC.2.2.2.2.2.2.1
  refine va_get hC.1 hC.2.1 hts c2 hC.2.2.2.1 hC.2.2.2.2.2.2.2.1 hP a (obG_at ha hk c4) c1 k hkN (hts _ hw) (fun x h => by rw [hn] at h; exact h) (v := .ref (b + q)) ?_ hd (kk H locs ls hl hP hS)
  rw [fs_at (by rw [c3]; exact hkN)]
  rcases hty with ⟨z, h⟩ | ⟨z, h⟩ <;> rw [h] <;> show some (va_rf ((M.2.2.1 a k).map _)) = _ <;> rw [hq] <;> rfl
theorem GG_aast {M : MG} {ca ci cells slots a v : Nat} {r : vw_C} {i : Int32} (hC : CX p s m args meth c cc nL own ret D T) (ha : a < M.2.2.2) (hk : kd a = ca) (hv : v < M.2.2.2) (hkv : kd v = ci) (hr : (ca = 9 ∧ ci = 0 ∧ r = (RX0, TX0, 18)) ∨ (ca = 10 ∧ ci = 2 ∧ r = (RX2, TX2, 19))) (hi : vp_in i (ln a)) (hd : decode cc pc = .ok (.aastore, 1))
    (kk : GG p l e R s m args below meth c D T b nL cells slots Q (pc + 1) lv st (sGR M a i.toNatClampNeg (some v))) : GG p l e R s m args below meth c D T b nL cells slots Q pc lv (.ref (b + v) :: .int i :: .ref (b + a) :: st) M := by
  intro H locs ls hl hP hS
  have hK := hC.2.2.2.2.2.2.2.1
  have hws : (wsM T b M)[a]? = some (b + a, .inl (T ca, ln a, .inr (.inr (.inr (.inr (fun j => (M.2.2.1 a j).map (fun q => b + q))))))) := by
    rw [wsM_at ha, cel_ref hk (by omega)]
  have hwv : (wsM T b M)[v]? = some (b + v, .inr (ci, (List.range (nfl ci)).map (fun k => fvl b M v (tyf ci k) k))) := obG_at hv hkv (by omega)
  have key : ∀ (H1 : Heap) (locs1 : List Loc), va_P D vwCl ((wsM T b M).set a (b + a, .inl (T ca, ln a, .inr (.inr (.inr (.inr (va_up (fun j => (M.2.2.1 a j).map (fun q => b + q)) i.toNatClampNeg (some (b + v))))))))) H1 → va_S (fun q => b ≤ q) s.heap H1 locs1 → W p l e R s m args below meth c H1 locs1 cells slots Q (F0 m (pc + 1) ls st) := by
    intro H1 locs1 hP1 hS1
    refine kk H1 locs1 ls hl ?_ hS1
    rw [wsM_set (M := M) (M' := sGR M a i.toNatClampNeg (some v)) rfl ?_ ?_] at hP1
    · exact hP1
    · rw [cel_ref hk (by omega)]
      show _ = Sum.inl (T ca, ln a, Sum.inr (Sum.inr (Sum.inr (Sum.inr (fun j => (up2 M.2.2.1 a i.toNatClampNeg (some v) a j).map (fun q => b + q))))))
      rw [up2_row]
      congr 7
      funext j
      by_cases hj : j = i.toNatClampNeg
      · subst hj
        simp [va_up_self]
      · rw [va_up_ne _ _ hj, va_up_ne _ _ hj]
    · intro z hz
      exact cel_oth rfl rfl (up2_r _ _ _ hz)
  rcases hr with ⟨q1, q2, q3⟩ | ⟨q1, q2, q3⟩
  · subst q1; subst q2; subst q3
    exact va_astq hC.1 hC.2.1 hK hP wsM_D hS a 3 v 0 hws rfl hwv rfl hi hd (fun H1 locs1 hP1 _ hS1 => key H1 locs1 hP1 hS1)
  · subst q1; subst q2; subst q3
    exact va_astq hC.1 hC.2.1 hK hP wsM_D hS a 4 v 2 hws rfl hwv rfl hi hd (fun H1 locs1 hP1 _ hS1 => key H1 locs1 hP1 hS1)
/-- a constructor's contract -/
def PCA (D : va_G) (T : Nat → ClassId) (b : Nat) (av : List Value) (M : MG) : Array Value → State → Prop := va_Pc av (fun U => RP D T b M U.heap ∧ U.heap.size = b + M.2.2.2 ∧ va_K D vwCl (tyl T) U ∧ NW U ∧ AO U)
def CtA (l : Launch) (y : MethodName) (cc : ByteArray) (maxL : Nat) (rm : Room) (mc ms : Nat) (av : Nat → List Value) (M M' : MG) : Prop :=
  ∀ (D : va_G) (T : Nat → ClassId) (b : Nat), Met l y (.code y cc maxL none :: tb) rm (PCA D T b (av b) M) (QC D T b none M') mc ms (fun q => b ≤ q)
theorem PCA.blind {D : va_G} {T : Nat → ClassId} {b : Nat} {av : List Value} {M : MG} : FrameBlind (PCA D T b av M) := by
  intro a U g mk h
  obtain ⟨h1, h2, h3, h4, h5, h6⟩ := h
  exact ⟨h1, h2, h3, va_K.moved (u := U) (U := U.calling g mk a) (Vm.Alike.refl U.vm) h4, NW.same rfl h5, AO.moved (u := U) (U := U.calling g mk a) (Vm.Alike.refl U.vm) h6⟩
def rmC (f l mc ms : Nat) : Room := { frames := f, cells := mc, slots := ms, locals := l }
def MI (y : MethodName) (cc : ByteArray) (maxL n : Nat) : Prop := Cond.code y cc maxL none ∈ tb ∧ Cond.initialized y.cls ∈ tb ∧ Cond.instanceMethod y ∈ tb ∧ y.name = "<init>" ∧ (y.cls ≠ "java/lang/invoke/MethodHandle" ∧ y.cls ≠ "java/lang/invoke/VarHandle" ∧ (parseMethodDescriptor y.desc).map (fun d => d.parameters.length) = some n)
theorem GG_init {M : MG} {y : MethodName} {c2 : ByteArray} {maxL n index : Nat} {rm : Room} {mc ms cells slots n0 : Nat} {av : Nat → List Value} {M' : MG} {As rest : List Value} {a : Nat} (hC : CX p s m args meth c cc nL own ret D T) (hA : AO s) (hb0 : s.heap.size = b + n0) (hnn : M.2.2.2 = n0 + cells) (hM : CtA l y c2 maxL rm mc ms av M M') (hy : MI y c2 maxL n) (hw : Cond.methodLink own index y ∈ tb ∨ ∃ host, Cond.methodLinkNest own index y host ∈ lw_tbl) (hn : As.length = n) (hav : av b = .ref (b + a) :: As) (hrm : rm.cells = mc ∧ rm.slots = ms) (hst : st = As.reverse ++ .ref (b + a) :: rest) (hroom : (rest.map fun v => v.category).sum ≤ 8) (hR : rm.frames + 1 ≤ R.frames ∧ 8 + (maxL + 11) + rm.locals ≤ R.locals) (hcs : cells + mc ≤ R.cells ∧ slots + ms ≤ R.slots) (hd : decode cc pc = .ok (.invokespecial index, 3))
    (kk : GG p l e R s m args below meth c D T b nL (cells + mc) (slots + ms) Q (pc + 3) lv rest M') : GG p l e R s m args below meth c D T b nL cells slots Q pc lv st M := by
  intro H locs ls hl hP hS
  refine W_size fun hle => ?_
  have hz : H.size = b + M.2.2.2 := RP_size hP hS hb0 hnn hle
  obtain ⟨hx, hb, hml, hown, hret, hlk, hts, hK, hN⟩ := hC
  obtain ⟨y1, y2, y3, y4, y5⟩ := hy
  have hpre : ∀ U : State, U.heap = H → s.WarmedH U.vm → PCA D T b (.ref (b + a) :: As) M (Value.ref (b + a) :: As).toArray U := fun U hU hW => ⟨rfl, by rw [hU]; exact hP, by rw [hU]; exact hz, va_K.moved hW.alike hK, NW.warm hW hN, AO.moved hW.alike hA⟩
  have hM2 := hM D T b
  rw [hav] at hM2
  rcases hw with hw | ⟨host, hw⟩
  · exact GG_cont (rest := rest) (a := (Value.ref (b + a) :: As).toArray) (va_runI (As := As) (rest := rest) (b := b + a) (bytes := c2) (n := n) ⟨hx, hb, hml, hown, hts⟩ hM2 ⟨callB_of n hts (tb_good y1) rfl hrm.1 hrm.2 (hts _ y2) (hts _ hw) y5 hR, y4, hts _ y3⟩ ⟨PCA.blind, hpre⟩ rfl hn hl.1 hst (lv_room hroom) hd hcs) hl hS kk
  · exact GG_cont (rest := rest) (a := (Value.ref (b + a) :: As).toArray) (va_runIN (As := As) (rest := rest) (b := b + a) (bytes := c2) (n := n) (host := host) ⟨hx, hb, hml, hown, hts⟩ hM2 ⟨va_cnB n hts (tb_good y1) rfl hrm.1 hrm.2 (hN _ _ _ _ hw) (hts _ y2) y5 hR, y4, hts _ y3⟩ ⟨PCA.blind, hpre⟩ rfl hn hl.1 hst (lv_room hroom) hd hcs) hl hS kk
end CR
