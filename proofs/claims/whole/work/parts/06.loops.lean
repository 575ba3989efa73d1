/-! loops: fuel that no loop here spends -/
def FU : Nat := 4000
def lp {σ γ : Type} (g : (σ → Option γ) → σ → Option γ) : Nat → σ → Option γ
  | 0, _ => none
  | n + 1, x => g (lp g n) x
def bndV {τ γ : Type} (x : τ) (A : τ → Option γ) : Option γ := A x
def tsw {γ : Type} (x : Int32) (n : Nat) (A : Nat → Option γ) (Z : Option γ) : Option γ := if x < 0 ∨ n ≤ x.toNatClampNeg then Z else A x.toNatClampNeg
section GL
variable {p : Program} {l : Launch} {e : Env} {R : Room} {s : State} {m : MethodId} {args : Array Value} {below : List Frame} {meth : Method} {c : Code} {D : va_G} {T : Nat → ClassId} {b nL : Nat} {cc : ByteArray} {own : String} {ret : Option FieldType} {pc : Nat} {lv : List (Nat × Value)} {st : List Value}
theorem n_loop {α σ : Type} {em : α → Option Value} {hd : Nat} (lvf : σ → List (Nat × Value)) (mf : σ → Me) {g : (σ → Option (α × Me)) → σ → Option (α × Me)} (h : ∀ kb : σ → Option (α × Me), (∀ x, GN p l e R s m args below meth c D T b nL em hd (lvf x) [] (mf x) (kb x)) → ∀ x, GN p l e R s m args below meth c D T b nL em hd (lvf x) [] (mf x) (g kb x)) (n : Nat) : ∀ x : σ, GN p l e R s m args below meth c D T b nL em hd (lvf x) [] (mf x) (lp g n x) := by
  induction n with
  | zero => exact fun x => GN.none
  | succ n ih => exact fun x => h (lp g n) ih x
theorem n_tsw {α : Type} {em : α → Option Value} {M : Me} {A : Nat → Option (α × Me)} {Z : Option (α × Me)} (hC : CX p s m args meth c cc nL own ret D T) {x : Int32} {dflt hi : Int} {offs : Array Int} {len n : Nat} (tg : Nat → Nat) (dt : Nat) (hd : decode cc pc = .ok (.tableswitch dflt 0 hi offs, len)) (hn : hi + 1 = (n : Int)) (hdt : (pc : Int) + dflt = (dt : Int)) (htg : ∀ i, i < n → ∃ o, offs[i]? = some o ∧ (pc : Int) + o = (tg i : Int)) (k : ∀ i, i < n → GN p l e R s m args below meth c D T b nL em (tg i) lv st M (A i)) (kz : GN p l e R s m args below meth c D T b nL em dt lv st M Z) : GN p l e R s m args below meth c D T b nL em pc lv (.int x :: st) M (tsw x n A Z) := by
  intro r M9 h9 H locs ls hl hP hS
  unfold tsw at h9
  by_cases q : x < 0 ∨ n ≤ x.toNatClampNeg
  · rw [if_pos q] at h9
    refine lv_tableOut hC.1 hC.2.1 hd ?_ hdt (kz r M9 h9 H locs ls hl hP hS)
    have h1 : x.toNatClampNeg = x.toInt.toNat := rfl
    rcases q with q | q
    · exact Or.inl (by simpa [Int32.lt_iff_toInt_lt] using q)
    · by_cases hz : x.toInt < 0
      · exact Or.inl hz
      · exact Or.inr (by omega)
  · rw [if_neg q] at h9
    obtain ⟨q1, q2⟩ := not_or.mp q
    have q1 : ¬ x.toInt < 0 := by simpa [Int32.lt_iff_toInt_lt] using q1
    have h2 : (x.toNatClampNeg : Int) = x.toInt := by
      show ((x.toInt.toNat : Nat) : Int) = _
      omega
    obtain ⟨o, ho, ht⟩ := htg x.toNatClampNeg (by omega)
    refine lv_tableIn hC.1 hC.2.1 hd q1 (by omega) (off := o) ?_ ht (k _ (by omega) r M9 h9 H locs ls hl hP hS)
    have h3 : (x.toInt - 0).toNat = x.toNatClampNeg := by
      show _ = x.toInt.toNat
      omega
    rw [h3]
    exact ho
theorem n_istB_n {α : Type} {em : α → Option Value} {M : Me} {F : Int32 → Option (α × Me)} (hC : CX p s m args meth c cc nL own ret D T) {kk : Fin 4} {i : Nat} (hi : (kk : Nat) = i) {x : Int32} (lv2 : Int32 → List (Nat × Value)) (hn : i < nL) (hv : ∀ v, (i, Value.int v) :: lv.filter (fun q => !(q.1 == i) && !(q.1 + 1 == i && q.2.category == 2)) = lv2 v) (hd : decode cc pc = .ok (.istore_n kk, 1)) (k : ∀ v : Int32, GN p l e R s m args below meth c D T b nL em (pc + 1) (lv2 v) st M (F v)) : GN p l e R s m args below meth c D T b nL em pc lv (.int x :: st) M (bndV x F) := n_istore_n hC hi (lv2 x) hn (hv x) hd (k x)
theorem n_istB {α : Type} {em : α → Option Value} {M : Me} {F : Int32 → Option (α × Me)} (hC : CX p s m args meth c cc nL own ret D T) {i : Nat} {x : Int32} (lv2 : Int32 → List (Nat × Value)) (hn : i < nL) (hv : ∀ v, (i, Value.int v) :: lv.filter (fun q => !(q.1 == i) && !(q.1 + 1 == i && q.2.category == 2)) = lv2 v) (hd : decode cc pc = .ok (.istore i, 2)) (k : ∀ v : Int32, GN p l e R s m args below meth c D T b nL em (pc + 2) (lv2 v) st M (F v)) : GN p l e R s m args below meth c D T b nL em pc lv (.int x :: st) M (bndV x F) := n_istore hC (lv2 x) hn (hv x) hd (k x)
theorem n_lstB_n {α : Type} {em : α → Option Value} {M : Me} {F : Int64 → Option (α × Me)} (hC : CX p s m args meth c cc nL own ret D T) {kk : Fin 4} {i : Nat} (hi : (kk : Nat) = i) {x : Int64} (lv2 : Int64 → List (Nat × Value)) (hn : i + 1 < nL) (hv : ∀ v, (i, Value.long v) :: lv.filter (fun q => !(q.1 == i) && (!(q.1 == i + 1) && !(q.1 + 1 == i && q.2.category == 2))) = lv2 v) (hd : decode cc pc = .ok (.lstore_n kk, 1)) (k : ∀ v : Int64, GN p l e R s m args below meth c D T b nL em (pc + 1) (lv2 v) st M (F v)) : GN p l e R s m args below meth c D T b nL em pc lv (.long x :: st) M (bndV x F) := n_lstore_n hC hi (lv2 x) hn (hv x) hd (k x)
theorem n_lstB {α : Type} {em : α → Option Value} {M : Me} {F : Int64 → Option (α × Me)} (hC : CX p s m args meth c cc nL own ret D T) {i : Nat} {x : Int64} (lv2 : Int64 → List (Nat × Value)) (hn : i + 1 < nL) (hv : ∀ v, (i, Value.long v) :: lv.filter (fun q => !(q.1 == i) && (!(q.1 == i + 1) && !(q.1 + 1 == i && q.2.category == 2))) = lv2 v) (hd : decode cc pc = .ok (.lstore i, 2)) (k : ∀ v : Int64, GN p l e R s m args below meth c D T b nL em (pc + 2) (lv2 v) st M (F v)) : GN p l e R s m args below meth c D T b nL em pc lv (.long x :: st) M (bndV x F) := n_lstore hC (lv2 x) hn (hv x) hd (k x)
theorem n_astB_n {α : Type} {em : α → Option Value} {M : Me} {F : Nat → Option (α × Me)} (hC : CX p s m args meth c cc nL own ret D T) {kk : Fin 4} {i : Nat} (hi : (kk : Nat) = i) {x ci : Nat} (hk : kd x = ci) (lv2 : Nat → List (Nat × Value)) (hn : i < nL) (hv : ∀ v, (i, Value.ref (b + v)) :: lv.filter (fun q => !(q.1 == i) && !(q.1 + 1 == i && q.2.category == 2)) = lv2 v) (hd : decode cc pc = .ok (.astore_n kk, 1)) (k : ∀ v : Nat, kd v = ci → GN p l e R s m args below meth c D T b nL em (pc + 1) (lv2 v) st M (F v)) : GN p l e R s m args below meth c D T b nL em pc lv (.ref (b + x) :: st) M (bndV x F) := n_astore_n hC hi (lv2 x) hn (hv x) hd (k x hk)
theorem n_astB {α : Type} {em : α → Option Value} {M : Me} {F : Nat → Option (α × Me)} (hC : CX p s m args meth c cc nL own ret D T) {i : Nat} {x ci : Nat} (hk : kd x = ci) (lv2 : Nat → List (Nat × Value)) (hn : i < nL) (hv : ∀ v, (i, Value.ref (b + v)) :: lv.filter (fun q => !(q.1 == i) && !(q.1 + 1 == i && q.2.category == 2)) = lv2 v) (hd : decode cc pc = .ok (.astore i, 2)) (k : ∀ v : Nat, kd v = ci → GN p l e R s m args below meth c D T b nL em (pc + 2) (lv2 v) st M (F v)) : GN p l e R s m args below meth c D T b nL em pc lv (.ref (b + x) :: st) M (bndV x F) := n_astore hC (lv2 x) hn (hv x) hd (k x hk)
theorem n_iincB {α : Type} {em : α → Option Value} {M : Me} {F : Int32 → Option (α × Me)} (hC : CX p s m args meth c cc nL own ret D T) {i : Nat} {n : Int} {x : Int32} (w : Int32) (hw : Int32.ofInt n = w) (lv2 : Int32 → List (Nat × Value)) (j : Nat) (hj : lv[j]? = some (i, .int x)) (hn : i < nL) (hl2 : ∀ v, (i, Value.int v) :: lv.filter (fun q => !(q.1 == i) && !(q.1 + 1 == i && q.2.category == 2)) = lv2 v) (hd : decode cc pc = .ok (.iinc i n, 3)) (k : ∀ v : Int32, GN p l e R s m args below meth c D T b nL em (pc + 3) (lv2 v) st M (F v)) : GN p l e R s m args below meth c D T b nL em pc lv st M (bndV (x + w) F) := n_iinc hC (x + w) (lv2 _) j hj (by rw [hw]) hn (hl2 _) hd (k _)
end GL
