/-! THE START: the two objects are made; what is left is pure -/
def M00 : MG := (fun _ _ => 0, fun _ _ => 0, fun _ _ => none, 0)
def mx1 : MG := match f_X4_init (al M00) 0 with
  | some q => q.2
  | none => M00
def mx2 : MG := match f_X5_init (al mx1) 91 with
  | some q => q.2
  | none => M00
/-- the memory at the law's loop -/
def M0 : Me := (mx2.1, mx2.2.1)
/-- the law's own function: what it answers over L ints xs -/
def lawF (L : Nat) (xs : Nat → Int32) : Option (Int32 × Me) := l_L_law_18 (fun _ M => chZ (1 : Int32) (some ((1 : Int32), M))) L xs 0 91 (0 : Int32) M0
theorem mx1_is : (f_X4_init (al M00) 0).isSome = true := by decide +kernel
theorem mx1_ok : f_X4_init (al M00) 0 = some ((), mx1) := by
  have h := mx1_is
  unfold mx1
  cases hq : f_X4_init (al M00) 0 with
  | none => rw [hq] at h; cases h
  | some q => rfl
theorem mx1_n : mx1.2.2.2 = 91 := by decide +kernel
theorem mx2_is : (f_X5_init (al mx1) 91).isSome = true := by decide +kernel
theorem mx2_ok : f_X5_init (al mx1) 91 = some ((), mx2) := by
  have h := mx2_is
  unfold mx2
  cases hq : f_X5_init (al mx1) 91 with
  | none => rw [hq] at h; cases h
  | some q => rfl
theorem mx2_n : mx2.2.2.2 = 115 := by decide +kernel
def isRt (ty : FieldType) : Bool := match ty with
  | .object _ => true
  | .array _ => true
  | _ => false
theorem mx2_R : ∀ a, a < 115 → kd a < 6 → ∀ k, k < 44 → isRt (tyf (kd a) k) = true → mx2.2.2.1 a k = some (rf a k) := by decide +kernel
theorem mx2_A : ∀ a, a < 115 → 9 ≤ kd a → ∀ k, k < 12 → ln a = 12 ∧ mx2.2.2.1 a k = some (rf a k) := by decide +kernel
theorem arrV_ext {cI : ClassId} {N : Nat} {f g : Nat → Value} (h : ∀ j, j < N → f j = g j) : arrV cI N f = arrV cI N g := by
  unfold arrV
  congr 1
  apply Array.ext
  · simp
  · intro j h1 h2
    simp only [Array.getElem_ofFn]
    exact h j (by simpa using h1)
theorem RP_M0 {D : va_G} {T : Nat → ClassId} {b : Nat} {H : Heap} (h : RP D T b mx2 H) : RP D T b (mg M0) H := by
  intro k q hq
  obtain ⟨hk, e⟩ := wsM_inv hq
  have hk : k < 115 := hk
  subst e
  have h1 := h k _ (wsM_at (by rw [mx2_n]; exact hk))
  by_cases h6 : kd k < 6
  · rw [cel_obj rfl h6] at h1 ⊢
    obtain ⟨r, g1, g2⟩ := h1
    refine ⟨r, g1, g2.to (fun j hj => ?_)⟩
    have hr : r.2.2 = nfl (kd k) := by
      revert g1
      rcases (show kd k = 0 ∨ kd k = 1 ∨ kd k = 2 ∨ kd k = 3 ∨ kd k = 4 ∨ kd k = 5 by omega) with q | q | q | q | q | q <;> rw [q] <;> intro g1 <;> cases g1 <;> rfl
    have hj2 : j < nfl (kd k) := by rw [← hr]; exact hj
    have h44 := nfl44 (kd k) h6
    unfold vp_V
    rw [List.getD_eq_getElem?_getD, List.getD_eq_getElem?_getD, fs_at hj2, fs_at hj2]
    show (some (fvl b mx2 k (tyf (kd k) j) j)).getD _ = (some (fvl b (mg M0) k (tyf (kd k) j) j)).getD _
    have e1 := mx2_R k hk h6 j (by omega)
    have e2 : fvl b mx2 k (tyf (kd k) j) j = fvl b (mg M0) k (tyf (kd k) j) j := by
      revert e1
      generalize tyf (kd k) j = ty
      intro e1
      cases ty <;> first | rfl | (show va_rf ((mx2.2.2.1 k j).map _) = _; rw [e1 rfl]; rfl)
    rw [e2]
  · by_cases h9 : kd k < 9
    · rw [cel_arr rfl h6 h9] at h1 ⊢
      exact h1
    · rw [cel_ref rfl h9] at h1 ⊢
      show H[b + k]? = some (vp_cell _ _)
      have h2 : H[b + k]? = some (vp_cell (T (kd k)) (ln k, .inr (.inr (.inr (.inr (fun j => (mx2.2.2.1 k j).map (fun q => b + q))))))) := h1
      rw [h2, vp_cell_q, vp_cell_q]
      congr 1
      apply arrV_ext
      intro j hj
      have h3 := mx2_A k hk (by omega)
      rw [(h3 0 (by omega)).1] at hj
      rw [(h3 j hj).2]
      rfl
theorem st_ao0 : Cond.arrayOver (.object RX0) ∈ lw_tbl := (List.mem_append_right _ (List.mem_of_getElem? (i := 16) (by decide +kernel)))
theorem st_ao2 : Cond.arrayOver (.object RX2) ∈ lw_tbl := (List.mem_append_right _ (List.mem_of_getElem? (i := 42) (by decide +kernel)))
theorem st_lim : 0 + 1 + (0 + 91 - (0 + 1)) + 1 + (91 + 24 - (91 + 1)) ≤ 600000 ∧ 0 + 8 + (sl (0 + 91) - sl (0 + 1)) + 44 + (sl (91 + 24) - sl (91 + 1)) ≤ 7302250 := by decide +kernel
set_option maxHeartbeats 4000000 in
set_option maxRecDepth 100000 in
/-- YOUR PART, as far as the machine goes: where the law's function answers 1, the law does -/
theorem start_open {p : Program} {e : Env} {s : State} {m : MethodId} {below : List Frame} {meth : Method} {c : Code} (l : Launch) {b L : Nat} {xs : Nat → Int32} (hF : ∃ M', lawF L xs = some (1, M')) (C0 : lw_At p s m meth c b L xs) : W p l e room_1 s m #[Value.ref b] below meth c s.heap [] 0 0 (lw_Z below #[Value.ref b] s) (entryFrame m ([Value.ref b] : List Value).toArray 4) := by
  obtain ⟨hx, hb, hr, hml, hown, hts, hX, hbl, hlocks, hgv⟩ := id C0
  have htb : ∀ w ∈ tb, w.before #[Value.ref b] s = true := fun w h => hts w (tb_lw h)
  obtain ⟨c0, i0, k0⟩ := u_known (C := RX0) (T := TX0) (N := 18) (n := 18) htb clX0.2.1 (htb _ wn_X0)
  obtain ⟨c1, i1, k1⟩ := u_known (C := RX1) (T := TX1) (N := 9) (n := 9) htb clX1.2.1 (htb _ wn_X1)
  obtain ⟨c2, i2, k2⟩ := u_known (C := RX2) (T := TX2) (N := 19) (n := 19) htb clX2.2.1 (htb _ wn_X2)
  obtain ⟨c3, i3, k3⟩ := u_known (C := RX3) (T := TX3) (N := 2) (n := 2) htb clX3.2.1 (htb _ wn_X3)
  obtain ⟨c4, i4, k4⟩ := u_known (C := RX4) (T := TX4) (N := 8) (n := 8) htb clX4.2.1 (htb _ wn_X4)
  obtain ⟨c5, i5, k5⟩ := u_known (C := RX5) (T := TX5) (N := 44) (n := 44) htb clX5.2.1 (htb _ wn_X5)
  obtain ⟨cB, kB, mB, b1, b2, b3⟩ := Cond.arrayClass_spec (htb _ wa_byte)
  obtain ⟨cI, kI, mI, i1', i2', i3'⟩ := Cond.arrayClass_spec (htb _ wa_int)
  obtain ⟨cZ, kZ, mZ, z1, z2, z3⟩ := Cond.arrayClass_spec (htb _ wa_boolean)
  obtain ⟨mE, cE, kE, e1, e2, e3, e4, e5⟩ := Cond.arrayOver_spec (hts _ st_ao0)
  obtain ⟨mR, cR, kR, r1, r2, r3, r4, r5⟩ := Cond.arrayOver_spec (hts _ st_ao2)
  obtain ⟨D, hD⟩ : ∃ D : va_G, ∀ (k : Nat) (q : vw_C), vwCl[k]? = some q → u_Kn s q.1 q.2.1 q.2.2 (D.1 k) (D.2 k) := by
    refine ⟨(fun k => match k with | 0 => c0 | 1 => c1 | 2 => c2 | 3 => c3 | 4 => c4 | _ => c5, fun k => match k with | 0 => i0 | 1 => i1 | 2 => i2 | 3 => i3 | 4 => i4 | _ => i5), ?_⟩
    intro k q hq
    match k, hq with
    | 0, hq => cases hq; exact k0
    | 1, hq => cases hq; exact k1
    | 2, hq => cases hq; exact k2
    | 3, hq => cases hq; exact k3
    | 4, hq => cases hq; exact k4
    | 5, hq => cases hq; exact k5
    | k + 6, hq => simp [vwCl] at hq
  obtain ⟨T, hT⟩ : ∃ T : Nat → ClassId, ∀ (k : Nat) (q : ClassId × FieldType), (tyl T)[k]? = some q → ArrOfT s q.1 q.2 ∧ va_RA s q.1 q.2 := by
    refine ⟨fun k => match k with | 6 => cB | 7 => cI | 8 => cZ | 9 => cE | _ => cR, ?_⟩
    intro k q hq
    match k, hq with
    | 0, hq => cases hq; exact ⟨fun n z => ⟨fun k h => (by cases h), kB, b2, mB, b3⟩, b1⟩
    | 1, hq => cases hq; exact ⟨fun n z => ⟨fun k h => (by cases h), kI, i2', mI, i3'⟩, i1'⟩
    | 2, hq => cases hq; exact ⟨fun n z => ⟨fun k h => (by cases h), kZ, z2, mZ, z3⟩, z1⟩
    | 3, hq => cases hq; exact ⟨fun n z => ⟨fun k h => (by cases h), kE, e3, mE, e4⟩, kE, mE, e3, e4, e1, e5⟩
    | 4, hq => cases hq; exact ⟨fun n z => ⟨fun k h => (by cases h), kR, r3, mR, r4⟩, kR, mR, r3, r4, r1, r5⟩
    | k + 5, hq => simp [tyl] at hq
  have hK : va_K D vwCl (tyl T) s := ⟨hD, hT⟩
  have hN : NW s := fun a i y h q => va_Nw.of rfl (hts _ q)
  have hAO : AO s := ⟨va_AO.of (hts _ st_ao0), va_AO.of (hts _ st_ao2)⟩
  have hC : CX p s m #[Value.ref b] meth c cL_law 4 RL ret D T := ⟨hx, hb, hml, hown, hr, hlocks, htb, hK, hN⟩
  have hLX : LX s s.heap.size b L xs := ⟨hX, hbl, rfl⟩
  have hl := lv_entry ([.ref b]) (n := 4) (Nat.le_of_ble_eq_true rfl)
  rw [lg_entry_eq]
  generalize (lg_sl ([.ref b]) ++ List.replicate (4 - (lg_sl ([.ref b])).length) Slot.unset).toArray = ls at hl ⊢
  have hl : lv_has ls 4 [(0, .ref b)] := hl
  suffices hG : GG p l e room_1 s m #[Value.ref b] below meth c D T s.heap.size 4 0 0 (lw_Z below #[Value.ref b] s) 0 [(0, .ref b)] [] M00 from hG s.heap [] ls hl (fun k q h => by cases h) va_S.rf
  refine GG_new (n0 := 0) hC clX4 rfl rfl rfl wk_L_7 wn_X4 wz_X4 (Nat.le_of_ble_eq_true rfl) (Nat.le_of_ble_eq_true rfl) dL_law_0 ?_
  have step : ∀ {cells slots pc : Nat} {lv : List (Nat × Value)} {st : List Value} {M : MG} {v : Value}, v.category = 1 → decode cL_law pc = .ok (.dup, 1) → GG p l e room_1 s m #[Value.ref b] below meth c D T s.heap.size 4 cells slots (lw_Z below #[Value.ref b] s) (pc + 1) lv (v :: v :: st) M → GG p l e room_1 s m #[Value.ref b] below meth c D T s.heap.size 4 cells slots (lw_Z below #[Value.ref b] s) pc lv (v :: st) M := fun hv hd k H locs ls hl hP hS => lv_dup hx hb hd hv (k H locs ls hl hP hS)
  refine step rfl dL_law_3 ?_
  refine GG_init (n0 := 0) (As := []) (rest := [.ref (s.heap.size + 0)]) (a := 0) hC hAO rfl rfl (c_X4_init l (al M00) 0 rfl rfl () mx1 mx1_ok) my_X4_init (Or.inl ml_L_9) rfl rfl ⟨rfl, rfl⟩ rfl (Nat.le_of_ble_eq_true rfl) ⟨Nat.le_of_ble_eq_true rfl, Nat.le_of_ble_eq_true rfl⟩ ⟨by decide +kernel, by decide +kernel⟩ dL_law_4 ?_
  intro H locs ls hl hP hS
  refine lv_astore_n (lv' := [(1, .ref (s.heap.size + 0)), (0, .ref b)]) hx hb dL_law_7 rfl hl (by decide) rfl (fun ls hl => ?_)
  suffices hG : GG p l e room_1 s m #[Value.ref b] below meth c D T s.heap.size 4 (0 + 1 + (0 + 91 - (0 + 1))) (0 + 8 + (sl (0 + 91) - sl (0 + 1))) (lw_Z below #[Value.ref b] s) 8 [(1, .ref (s.heap.size + 0)), (0, .ref b)] [] mx1 from hG H locs ls hl hP hS
  refine GG_new (n0 := 0) hC clX5 rfl (by rw [mx1_n]) (by rw [mx1_n]; rfl) wk_L_10 wn_X5 wz_X5 (by decide +kernel) (by decide +kernel) dL_law_8 ?_
  refine step rfl dL_law_11 ?_
  refine GG_init (n0 := 0) (As := []) (rest := [.ref (s.heap.size + 91)]) (a := 91) hC hAO rfl (by show mx1.2.2.2 + 1 = _; rw [mx1_n]) (c_X5_init l (al mx1) 91 rfl (by show mx1.2.2.2 + 1 = _; rw [mx1_n]) () mx2 mx2_ok) my_X5_init (Or.inl ml_L_12) rfl rfl ⟨rfl, rfl⟩ (by rw [mx1_n]; rfl) (Nat.le_of_ble_eq_true rfl) ⟨Nat.le_of_ble_eq_true rfl, Nat.le_of_ble_eq_true rfl⟩ ⟨by decide +kernel, by decide +kernel⟩ dL_law_12 ?_
  intro H locs ls hl hP hS
  refine lv_astore_n (lv' := [(2, .ref (s.heap.size + 91)), (1, .ref (s.heap.size + 0)), (0, .ref b)]) hx hb dL_law_15 rfl hl (by decide) rfl (fun ls hl => ?_)
  refine lv_iconst (v := 0) hx hb dL_law_16 (by decide) ?_
  refine lv_istore_n (lv' := [(3, .int 0), (2, .ref (s.heap.size + 91)), (1, .ref (s.heap.size + 0)), (0, .ref b)]) hx hb dL_law_17 rfl hl (by decide) rfl (fun ls hl => ?_)
  obtain ⟨M', hF⟩ := hF
  have hlim := st_lim
  have hloop := b_L_law_18 (l := l) (e := e) (below := below) (cells := 0 + 1 + (0 + 91 - (0 + 1)) + 1 + (91 + 24 - (91 + 1))) (slots := 0 + 8 + (sl (0 + 91) - sl (0 + 1)) + 44 + (sl (91 + 24) - sl (91 + 1))) hC L xs 0 91 0 hLX hlim rfl rfl (fun _ M => chZ (1 : Int32) (some ((1 : Int32), M))) (fun x3 M => by
    refine q_iconst hC (1 : Int32) (by decide) dL_law_1195 ?_
    exact q_zret rfl hlim hC dL_law_1196) M0
  have hW := hloop 1 M' hF H locs ls (lv_sub hl [3, 2, 1, 0] rfl) (RP_M0 hP) hS
  intro T9 hT9 X9
  obtain ⟨t, a1, a2⟩ := hW T9 hT9 X9
  exact ⟨t, a1, a2 rfl⟩
