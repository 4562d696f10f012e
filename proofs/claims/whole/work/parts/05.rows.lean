section SI
variable {p : Program} {l : Launch} {e : Env} {R : Room} {s : State} {m : MethodId} {args : Array Value} {below : List Frame} {meth : Method} {c : Code} {Q : State → Prop} {D : va_G} {ty : Nat → ClassId} {G : Nat → Nat → Nat} {b z0 : Nat} {cs : Bool} {n L : Nat} {xs : Nat → Int32} {mi c0 pc a bb : Nat} {x : Int32} {ll : List (Option aV)} {st : List aV} {M : aM} {S' : aS}
/-- the heap is no larger than what the walk has booked -/
theorem W_size {H : Heap} {locs : List Loc} {cells slots : Nat} {g : JFrame} (k : H.size ≤ s.heap.size + cells → W p l e R s m args below meth c H locs cells slots Q g) : W p l e R s m args below meth c H locs cells slots Q g := by
  intro T hT X
  have h : T.heap.size ≤ s.heap.size + cells := X.same.2.2.1
  rw [hT] at h
  exact k h T hT X
theorem va_S_here {A : Nat → Prop} {H0 H : Heap} {locs : List Loc} (h : va_S A H0 H locs) : va_S A H H locs := ⟨Nat.le_refl _, fun _ _ _ => rfl, h.2.2⟩
theorem va_S_tr {A : Nat → Prop} {H0 H H1 : Heap} {locs locs1 : List Loc} (h : va_S A H0 H locs) (h1 : va_S A H H1 locs1) : va_S A H0 H1 locs1 := ⟨Nat.le_trans h.1 h1.1, fun q hq hA => (h1.2.1 q (Nat.lt_of_lt_of_le hq h.1) hA).trans (h.2.1 q hq hA), h1.2.2⟩
theorem si_iconst (hC : C_X p R s m args meth c D ty G b z0 n L xs mi) {i : Int} (hd : decode (m_B mi) pc = .ok (.iconst i, 1)) (hi : Int32.ofInt i = x) (h : some (true, pc + 1, ll, Sum.inl x :: st, M) = some (true, S')) (k : A_W p l e R s m args below meth c Q D ty G z0 cs n (m_L mi) c0 S') : A_W p l e R s m args below meth c Q D ty G z0 cs n (m_L mi) c0 (pc, ll, st, M) := by
  cases h
  intro H locs ls hR
  obtain ⟨hP, hD, hS, hz, hle, hl, hv, hw⟩ := hR
  refine lv_iconst (v := x) hC.1 hC.2.1 hd hi ?_
  exact k H locs ls ⟨hP, hD, hS, hz, hle, hl, v_c trivial hv, hw⟩
theorem si_bipush (hC : C_X p R s m args meth c D ty G b z0 n L xs mi) {i : Int} (hd : decode (m_B mi) pc = .ok (.bipush i, 2)) (hi : (Int8.ofInt i).toInt32 = x) (h : some (true, pc + 2, ll, Sum.inl x :: st, M) = some (true, S')) (k : A_W p l e R s m args below meth c Q D ty G z0 cs n (m_L mi) c0 S') : A_W p l e R s m args below meth c Q D ty G z0 cs n (m_L mi) c0 (pc, ll, st, M) := by
  cases h
  intro H locs ls hR
  obtain ⟨hP, hD, hS, hz, hle, hl, hv, hw⟩ := hR
  refine lv_bipush (v := x) hC.1 hC.2.1 hd hi ?_
  exact k H locs ls ⟨hP, hD, hS, hz, hle, hl, v_c trivial hv, hw⟩
theorem si_sipush (hC : C_X p R s m args meth c D ty G b z0 n L xs mi) {i : Int} (hd : decode (m_B mi) pc = .ok (.sipush i, 3)) (hi : (Int16.ofInt i).toInt32 = x) (h : some (true, pc + 3, ll, Sum.inl x :: st, M) = some (true, S')) (k : A_W p l e R s m args below meth c Q D ty G z0 cs n (m_L mi) c0 S') : A_W p l e R s m args below meth c Q D ty G z0 cs n (m_L mi) c0 (pc, ll, st, M) := by
  cases h
  intro H locs ls hR
  obtain ⟨hP, hD, hS, hz, hle, hl, hv, hw⟩ := hR
  refine lv_sipush (v := x) hC.1 hC.2.1 hd hi ?_
  exact k H locs ls ⟨hP, hD, hS, hz, hle, hl, v_c trivial hv, hw⟩
theorem si_ldc2_w (hC : C_X p R s m args meth c D ty G b z0 n L xs mi) {i : Nat} (hd : decode (m_B mi) pc = .ok (.ldc2_w i, 3)) (hi : Cond.constantLong (R_o (m_o mi)) i x.toInt64 ∈ am_tb) (h : some (true, pc + 3, ll, Sum.inr (Sum.inr x.toInt64) :: st, M) = some (true, S')) (k : A_W p l e R s m args below meth c Q D ty G z0 cs n (m_L mi) c0 S') : A_W p l e R s m args below meth c Q D ty G z0 cs n (m_L mi) c0 (pc, ll, st, M) := by
  cases h
  intro H locs ls hR
  obtain ⟨hP, hD, hS, hz, hle, hl, hv, hw⟩ := hR
  refine lv_ldc2 (v := x.toInt64) hC.1 hC.2.1 hC.2.2.2.1 (hC.2.2.2.2.1 _ hi) hd ?_
  exact k H locs ls ⟨hP, hD, hS, hz, hle, hl, v_c trivial hv, hw⟩
theorem si_iload_n (hC : C_X p R s m args meth c D ty G b z0 n L xs mi) {i : Fin 4} (hd : decode (m_B mi) pc = .ok (.iload_n i, 1)) (hi : (i : Nat) = a) (h : (g_I ll a).map (fun y => (true, pc + 1, ll, Sum.inl y :: st, M)) = some (true, S')) (k : A_W p l e R s m args below meth c Q D ty G z0 cs n (m_L mi) c0 S') : A_W p l e R s m args below meth c Q D ty G z0 cs n (m_L mi) c0 (pc, ll, st, M) := by
  cases hg : g_I ll a with
  | none => rw [hg] at h; cases h
  | some y =>
    rw [hg] at h
    cases h
    have hg := g_I_inv hg
    intro H locs ls hR
    obtain ⟨hP, hD, hS, hz, hle, hl, hv, hw⟩ := hR
    refine lv_iload_n hC.1 hC.2.1 hd hi (l_get hl hg) ?_
    exact k H locs ls ⟨hP, hD, hS, hz, hle, hl, v_c trivial hv, hw⟩
theorem si_iload (hC : C_X p R s m args meth c D ty G b z0 n L xs mi) {i : Nat} (hd : decode (m_B mi) pc = .ok (.iload i, 2)) (hi : i = a) (h : (g_I ll a).map (fun y => (true, pc + 2, ll, Sum.inl y :: st, M)) = some (true, S')) (k : A_W p l e R s m args below meth c Q D ty G z0 cs n (m_L mi) c0 S') : A_W p l e R s m args below meth c Q D ty G z0 cs n (m_L mi) c0 (pc, ll, st, M) := by
  cases hg : g_I ll a with
  | none => rw [hg] at h; cases h
  | some y =>
    rw [hg] at h
    cases h
    have hg := g_I_inv hg
    intro H locs ls hR
    obtain ⟨hP, hD, hS, hz, hle, hl, hv, hw⟩ := hR
    subst hi
    refine lv_iload hC.1 hC.2.1 hd (l_get hl hg) ?_
    exact k H locs ls ⟨hP, hD, hS, hz, hle, hl, v_c trivial hv, hw⟩
theorem si_aload_n (hC : C_X p R s m args meth c D ty G b z0 n L xs mi) {i : Fin 4} (hd : decode (m_B mi) pc = .ok (.aload_n i, 1)) (hi : (i : Nat) = a) (h : (g_R ll a).map (fun y => (true, pc + 1, ll, Sum.inr (Sum.inl y) :: st, M)) = some (true, S')) (k : A_W p l e R s m args below meth c Q D ty G z0 cs n (m_L mi) c0 S') : A_W p l e R s m args below meth c Q D ty G z0 cs n (m_L mi) c0 (pc, ll, st, M) := by
  cases hg : g_R ll a with
  | none => rw [hg] at h; cases h
  | some y =>
    rw [hg] at h
    cases h
    have hg := g_R_inv hg
    intro H locs ls hR
    obtain ⟨hP, hD, hS, hz, hle, hl, hv, hw⟩ := hR
    refine lv_aload_n hC.1 hC.2.1 hd hi (l_get hl hg) ?_
    exact k H locs ls ⟨hP, hD, hS, hz, hle, hl, v_c (hw _ (List.mem_of_getElem? hg)) hv, hw⟩
theorem si_aload (hC : C_X p R s m args meth c D ty G b z0 n L xs mi) {i : Nat} (hd : decode (m_B mi) pc = .ok (.aload i, 2)) (hi : i = a) (h : (g_R ll a).map (fun y => (true, pc + 2, ll, Sum.inr (Sum.inl y) :: st, M)) = some (true, S')) (k : A_W p l e R s m args below meth c Q D ty G z0 cs n (m_L mi) c0 S') : A_W p l e R s m args below meth c Q D ty G z0 cs n (m_L mi) c0 (pc, ll, st, M) := by
  cases hg : g_R ll a with
  | none => rw [hg] at h; cases h
  | some y =>
    rw [hg] at h
    cases h
    have hg := g_R_inv hg
    intro H locs ls hR
    obtain ⟨hP, hD, hS, hz, hle, hl, hv, hw⟩ := hR
    subst hi
    refine lv_aload hC.1 hC.2.1 hd (l_get hl hg) ?_
    exact k H locs ls ⟨hP, hD, hS, hz, hle, hl, v_c (hw _ (List.mem_of_getElem? hg)) hv, hw⟩
theorem si_istore_n (hC : C_X p R s m args meth c D ty G b z0 n L xs mi) {i : Fin 4} (hd : decode (m_B mi) pc = .ok (.istore_n i, 1)) (hi : (i : Nat) = a) (ha : a < m_L mi) (h : o_1 st (fun y r => some (true, pc + 1, ll.set a (some (Sum.inl y)), r, M)) = some (true, S')) (k : A_W p l e R s m args below meth c Q D ty G z0 cs n (m_L mi) c0 S') : A_W p l e R s m args below meth c Q D ty G z0 cs n (m_L mi) c0 (pc, ll, st, M) := by
  obtain ⟨y, r, rfl, h⟩ := o_1_inv h
  cases h
  intro H locs ls hR
  obtain ⟨hP, hD, hS, hz, hle, hl, hv, hw⟩ := hR
  refine lv_istore_n hC.1 hC.2.1 hd hi (l_has hl) ha rfl (fun ls' hl' => ?_)
  exact k H locs ls' ⟨hP, hD, hS, hz, hle, l_st hl ha (fun z q => by cases q) hl', v_t hv, o_set hw (v_h hv)⟩
theorem si_istore (hC : C_X p R s m args meth c D ty G b z0 n L xs mi) {i : Nat} (hd : decode (m_B mi) pc = .ok (.istore i, 2)) (hi : i = a) (ha : a < m_L mi) (h : o_1 st (fun y r => some (true, pc + 2, ll.set a (some (Sum.inl y)), r, M)) = some (true, S')) (k : A_W p l e R s m args below meth c Q D ty G z0 cs n (m_L mi) c0 S') : A_W p l e R s m args below meth c Q D ty G z0 cs n (m_L mi) c0 (pc, ll, st, M) := by
  obtain ⟨y, r, rfl, h⟩ := o_1_inv h
  cases h
  intro H locs ls hR
  obtain ⟨hP, hD, hS, hz, hle, hl, hv, hw⟩ := hR
  subst hi
  refine lv_istore hC.1 hC.2.1 hd (l_has hl) ha rfl (fun ls' hl' => ?_)
  exact k H locs ls' ⟨hP, hD, hS, hz, hle, l_st hl ha (fun z q => by cases q) hl', v_t hv, o_set hw (v_h hv)⟩
theorem si_astore_n (hC : C_X p R s m args meth c D ty G b z0 n L xs mi) {i : Fin 4} (hd : decode (m_B mi) pc = .ok (.astore_n i, 1)) (hi : (i : Nat) = a) (ha : a < m_L mi) (h : o_R st (fun y r => some (true, pc + 1, ll.set a (some (Sum.inr (Sum.inl y))), r, M)) = some (true, S')) (k : A_W p l e R s m args below meth c Q D ty G z0 cs n (m_L mi) c0 S') : A_W p l e R s m args below meth c Q D ty G z0 cs n (m_L mi) c0 (pc, ll, st, M) := by
  obtain ⟨y, r, rfl, h⟩ := o_R_inv h
  cases h
  intro H locs ls hR
  obtain ⟨hP, hD, hS, hz, hle, hl, hv, hw⟩ := hR
  refine lv_astore_n hC.1 hC.2.1 hd hi (l_has hl) ha rfl (fun ls' hl' => ?_)
  exact k H locs ls' ⟨hP, hD, hS, hz, hle, l_st hl ha (fun z q => by cases q) hl', v_t hv, o_set hw (v_h hv)⟩
theorem si_astore (hC : C_X p R s m args meth c D ty G b z0 n L xs mi) {i : Nat} (hd : decode (m_B mi) pc = .ok (.astore i, 2)) (hi : i = a) (ha : a < m_L mi) (h : o_R st (fun y r => some (true, pc + 2, ll.set a (some (Sum.inr (Sum.inl y))), r, M)) = some (true, S')) (k : A_W p l e R s m args below meth c Q D ty G z0 cs n (m_L mi) c0 S') : A_W p l e R s m args below meth c Q D ty G z0 cs n (m_L mi) c0 (pc, ll, st, M) := by
  obtain ⟨y, r, rfl, h⟩ := o_R_inv h
  cases h
  intro H locs ls hR
  obtain ⟨hP, hD, hS, hz, hle, hl, hv, hw⟩ := hR
  subst hi
  refine lv_astore hC.1 hC.2.1 hd (l_has hl) ha rfl (fun ls' hl' => ?_)
  exact k H locs ls' ⟨hP, hD, hS, hz, hle, l_st hl ha (fun z q => by cases q) hl', v_t hv, o_set hw (v_h hv)⟩
theorem si_iinc (hC : C_X p R s m args meth c D ty G b z0 n L xs mi) {i : Nat} {j : Int} (hd : decode (m_B mi) pc = .ok (.iinc i j, 3)) (hi : i = a) (hj : Int32.ofInt j = x) (ha : a < m_L mi) (h : (g_I ll a).map (fun y => (true, pc + 3, ll.set a (some (Sum.inl (y + x))), st, M)) = some (true, S')) (k : A_W p l e R s m args below meth c Q D ty G z0 cs n (m_L mi) c0 S') : A_W p l e R s m args below meth c Q D ty G z0 cs n (m_L mi) c0 (pc, ll, st, M) := by
  cases hg : g_I ll a with
  | none => rw [hg] at h; cases h
  | some y =>
    rw [hg] at h
    cases h
    have hg := g_I_inv hg
    intro H locs ls hR
    obtain ⟨hP, hD, hS, hz, hle, hl, hv, hw⟩ := hR
    subst hi
    obtain ⟨kk, hkk⟩ := List.getElem?_of_mem (l_en_mem (G := G) (q := (i, .int y)).mpr ⟨.inl y, hg, rfl⟩)
    refine lv_iinc (v := y + x) hC.1 hC.2.1 hd (l_has hl) hkk (by rw [hj]) ha rfl (fun ls' hl' => ?_)
    exact k H locs ls' ⟨hP, hD, hS, hz, hle, l_st (v := .inl (y + x)) hl ha (fun z q => by cases q) hl', hv, o_set hw trivial⟩
theorem si_iadd (hC : C_X p R s m args meth c D ty G b z0 n L xs mi) (hd : decode (m_B mi) pc = .ok (.iadd, 1)) (h : o_2 st (fun p q r => some (true, pc + 1, ll, Sum.inl (p + q) :: r, M)) = some (true, S')) (k : A_W p l e R s m args below meth c Q D ty G z0 cs n (m_L mi) c0 S') : A_W p l e R s m args below meth c Q D ty G z0 cs n (m_L mi) c0 (pc, ll, st, M) := by
  obtain ⟨p', q', r, rfl, h⟩ := o_2_inv h
  cases h
  intro H locs ls hR
  obtain ⟨hP, hD, hS, hz, hle, hl, hv, hw⟩ := hR
  refine lv_iadd hC.1 hC.2.1 hd ?_
  exact k H locs ls ⟨hP, hD, hS, hz, hle, hl, v_c trivial (v_t (v_t hv)), hw⟩
theorem si_isub (hC : C_X p R s m args meth c D ty G b z0 n L xs mi) (hd : decode (m_B mi) pc = .ok (.isub, 1)) (h : o_2 st (fun p q r => some (true, pc + 1, ll, Sum.inl (p - q) :: r, M)) = some (true, S')) (k : A_W p l e R s m args below meth c Q D ty G z0 cs n (m_L mi) c0 S') : A_W p l e R s m args below meth c Q D ty G z0 cs n (m_L mi) c0 (pc, ll, st, M) := by
  obtain ⟨p', q', r, rfl, h⟩ := o_2_inv h
  cases h
  intro H locs ls hR
  obtain ⟨hP, hD, hS, hz, hle, hl, hv, hw⟩ := hR
  refine lv_isub hC.1 hC.2.1 hd ?_
  exact k H locs ls ⟨hP, hD, hS, hz, hle, hl, v_c trivial (v_t (v_t hv)), hw⟩
theorem si_imul (hC : C_X p R s m args meth c D ty G b z0 n L xs mi) (hd : decode (m_B mi) pc = .ok (.imul, 1)) (h : o_2 st (fun p q r => some (true, pc + 1, ll, Sum.inl (p * q) :: r, M)) = some (true, S')) (k : A_W p l e R s m args below meth c Q D ty G z0 cs n (m_L mi) c0 S') : A_W p l e R s m args below meth c Q D ty G z0 cs n (m_L mi) c0 (pc, ll, st, M) := by
  obtain ⟨p', q', r, rfl, h⟩ := o_2_inv h
  cases h
  intro H locs ls hR
  obtain ⟨hP, hD, hS, hz, hle, hl, hv, hw⟩ := hR
  refine lv_imul hC.1 hC.2.1 hd ?_
  exact k H locs ls ⟨hP, hD, hS, hz, hle, hl, v_c trivial (v_t (v_t hv)), hw⟩
theorem si_iand (hC : C_X p R s m args meth c D ty G b z0 n L xs mi) (hd : decode (m_B mi) pc = .ok (.iand, 1)) (h : o_2 st (fun p q r => some (true, pc + 1, ll, Sum.inl (p &&& q) :: r, M)) = some (true, S')) (k : A_W p l e R s m args below meth c Q D ty G z0 cs n (m_L mi) c0 S') : A_W p l e R s m args below meth c Q D ty G z0 cs n (m_L mi) c0 (pc, ll, st, M) := by
  obtain ⟨p', q', r, rfl, h⟩ := o_2_inv h
  cases h
  intro H locs ls hR
  obtain ⟨hP, hD, hS, hz, hle, hl, hv, hw⟩ := hR
  refine lv_iand hC.1 hC.2.1 hd ?_
  exact k H locs ls ⟨hP, hD, hS, hz, hle, hl, v_c trivial (v_t (v_t hv)), hw⟩
theorem si_irem (hC : C_X p R s m args meth c D ty G b z0 n L xs mi) (hd : decode (m_B mi) pc = .ok (.irem, 1)) (h : o_2 st (fun p q r => some (!(decide (q = 0)), pc + 1, ll, Sum.inl (p - p / q * q) :: r, M)) = some (true, S')) (k : A_W p l e R s m args below meth c Q D ty G z0 cs n (m_L mi) c0 S') : A_W p l e R s m args below meth c Q D ty G z0 cs n (m_L mi) c0 (pc, ll, st, M) := by
  obtain ⟨p', q', r, rfl, h⟩ := o_2_inv h
  obtain ⟨h1, rfl⟩ := Prod.mk.inj (Option.some.inj h)
  have h1 : ¬ q' = 0 := by simpa using h1
  intro H locs ls hR
  obtain ⟨hP, hD, hS, hz, hle, hl, hv, hw⟩ := hR
  refine lv_irem hC.1 hC.2.1 hd h1 ?_
  exact k H locs ls ⟨hP, hD, hS, hz, hle, hl, v_c trivial (v_t (v_t hv)), hw⟩
theorem si_i2l (hC : C_X p R s m args meth c D ty G b z0 n L xs mi) (hd : decode (m_B mi) pc = .ok (.i2l, 1)) (h : o_1 st (fun y r => some (true, pc + 1, ll, Sum.inr (Sum.inr y.toInt64) :: r, M)) = some (true, S')) (k : A_W p l e R s m args below meth c Q D ty G z0 cs n (m_L mi) c0 S') : A_W p l e R s m args below meth c Q D ty G z0 cs n (m_L mi) c0 (pc, ll, st, M) := by
  obtain ⟨y, r, rfl, h⟩ := o_1_inv h
  cases h
  intro H locs ls hR
  obtain ⟨hP, hD, hS, hz, hle, hl, hv, hw⟩ := hR
  refine lv_i2l hC.1 hC.2.1 hd rfl ?_
  exact k H locs ls ⟨hP, hD, hS, hz, hle, hl, v_c trivial (v_t hv), hw⟩
theorem si_ladd (hC : C_X p R s m args meth c D ty G b z0 n L xs mi) (hd : decode (m_B mi) pc = .ok (.ladd, 1)) (h : o_L st (fun p q r => some (true, pc + 1, ll, Sum.inr (Sum.inr (p + q)) :: r, M)) = some (true, S')) (k : A_W p l e R s m args below meth c Q D ty G z0 cs n (m_L mi) c0 S') : A_W p l e R s m args below meth c Q D ty G z0 cs n (m_L mi) c0 (pc, ll, st, M) := by
  obtain ⟨p', q', r, rfl, h⟩ := o_L_inv h
  cases h
  intro H locs ls hR
  obtain ⟨hP, hD, hS, hz, hle, hl, hv, hw⟩ := hR
  refine lv_ladd hC.1 hC.2.1 hd ?_
  exact k H locs ls ⟨hP, hD, hS, hz, hle, hl, v_c trivial (v_t (v_t hv)), hw⟩
theorem si_lmul (hC : C_X p R s m args meth c D ty G b z0 n L xs mi) (hd : decode (m_B mi) pc = .ok (.lmul, 1)) (h : o_L st (fun p q r => some (true, pc + 1, ll, Sum.inr (Sum.inr (p * q)) :: r, M)) = some (true, S')) (k : A_W p l e R s m args below meth c Q D ty G z0 cs n (m_L mi) c0 S') : A_W p l e R s m args below meth c Q D ty G z0 cs n (m_L mi) c0 (pc, ll, st, M) := by
  obtain ⟨p', q', r, rfl, h⟩ := o_L_inv h
  cases h
  intro H locs ls hR
  obtain ⟨hP, hD, hS, hz, hle, hl, hv, hw⟩ := hR
  refine lv_lmul hC.1 hC.2.1 hd ?_
  exact k H locs ls ⟨hP, hD, hS, hz, hle, hl, v_c trivial (v_t (v_t hv)), hw⟩
theorem si_lcmp (hC : C_X p R s m args meth c D ty G b z0 n L xs mi) (hd : decode (m_B mi) pc = .ok (.lcmp, 1)) (h : o_L st (fun p q r => some (true, pc + 1, ll, Sum.inl (lg_cmp p q) :: r, M)) = some (true, S')) (k : A_W p l e R s m args below meth c Q D ty G z0 cs n (m_L mi) c0 S') : A_W p l e R s m args below meth c Q D ty G z0 cs n (m_L mi) c0 (pc, ll, st, M) := by
  obtain ⟨p', q', r, rfl, h⟩ := o_L_inv h
  cases h
  intro H locs ls hR
  obtain ⟨hP, hD, hS, hz, hle, hl, hv, hw⟩ := hR
  refine W.lcmp hC.1 hC.2.1 hd ?_
  exact k H locs ls ⟨hP, hD, hS, hz, hle, hl, v_c trivial (v_t (v_t hv)), hw⟩
theorem si_dup (hC : C_X p R s m args meth c D ty G b z0 n L xs mi) (hd : decode (m_B mi) pc = .ok (.dup, 1)) (h : d_1 st (fun v r => some (true, pc + 1, ll, v :: v :: r, M)) = some (true, S')) (k : A_W p l e R s m args below meth c Q D ty G z0 cs n (m_L mi) c0 S') : A_W p l e R s m args below meth c Q D ty G z0 cs n (m_L mi) c0 (pc, ll, st, M) := by
  obtain ⟨y, r, rfl, hy, h⟩ := d_1_inv h
  cases h
  intro H locs ls hR
  obtain ⟨hP, hD, hS, hz, hle, hl, hv, hw⟩ := hR
  refine lv_dup hC.1 hC.2.1 hd (cat_1 hy) ?_
  exact k H locs ls ⟨hP, hD, hS, hz, hle, hl, v_c (v_h hv) hv, hw⟩
theorem si_pop (hC : C_X p R s m args meth c D ty G b z0 n L xs mi) (hd : decode (m_B mi) pc = .ok (.pop, 1)) (h : d_1 st (fun _ r => some (true, pc + 1, ll, r, M)) = some (true, S')) (k : A_W p l e R s m args below meth c Q D ty G z0 cs n (m_L mi) c0 S') : A_W p l e R s m args below meth c Q D ty G z0 cs n (m_L mi) c0 (pc, ll, st, M) := by
  obtain ⟨y, r, rfl, hy, h⟩ := d_1_inv h
  cases h
  intro H locs ls hR
  obtain ⟨hP, hD, hS, hz, hle, hl, hv, hw⟩ := hR
  refine lv_pop hC.1 hC.2.1 hd (cat_1 (G := G) hy) ?_
  exact k H locs ls ⟨hP, hD, hS, hz, hle, hl, v_t hv, hw⟩
theorem si_dup_x1 (hC : C_X p R s m args meth c D ty G b z0 n L xs mi) (hd : decode (m_B mi) pc = .ok (.dup_x1, 1)) (h : d_1 st (fun v r => d_1 r (fun w t => some (true, pc + 1, ll, v :: w :: v :: t, M))) = some (true, S')) (k : A_W p l e R s m args below meth c Q D ty G z0 cs n (m_L mi) c0 S') : A_W p l e R s m args below meth c Q D ty G z0 cs n (m_L mi) c0 (pc, ll, st, M) := by
  obtain ⟨y, r, rfl, hy, h⟩ := d_1_inv h
  obtain ⟨z, t, rfl, hz1, h⟩ := d_1_inv h
  cases h
  intro H locs ls hR
  obtain ⟨hP, hD, hS, hz, hle, hl, hv, hw⟩ := hR
  refine lv_dup_x1 hC.1 hC.2.1 hd (cat_1 hy) (cat_1 hz1) ?_
  exact k H locs ls ⟨hP, hD, hS, hz, hle, hl, v_c (v_h hv) (v_c (v_h (v_t hv)) (v_c (v_h hv) (v_t (v_t hv)))), hw⟩
theorem si_dup2 (hC : C_X p R s m args meth c D ty G b z0 n L xs mi) (hd : decode (m_B mi) pc = .ok (.dup2, 1)) (h : d_1 st (fun v r => d_1 r (fun w t => some (true, pc + 1, ll, v :: w :: v :: w :: t, M))) = some (true, S')) (k : A_W p l e R s m args below meth c Q D ty G z0 cs n (m_L mi) c0 S') : A_W p l e R s m args below meth c Q D ty G z0 cs n (m_L mi) c0 (pc, ll, st, M) := by
  obtain ⟨y, r, rfl, hy, h⟩ := d_1_inv h
  obtain ⟨z, t, rfl, hz1, h⟩ := d_1_inv h
  cases h
  intro H locs ls hR
  obtain ⟨hP, hD, hS, hz, hle, hl, hv, hw⟩ := hR
  refine lv_dup2_11 hC.1 hC.2.1 hd (cat_1 hy) (cat_1 hz1) ?_
  exact k H locs ls ⟨hP, hD, hS, hz, hle, hl, v_c (v_h hv) (v_c (v_h (v_t hv)) hv), hw⟩
theorem si_ifCond (hC : C_X p R s m args meth c D ty G b z0 n L xs mi) {cnd : Jvm.ClassFile.Cond} {off : Int} (hd : decode (m_B mi) pc = .ok (.ifCond cnd off, 3)) (ht : (pc : Int) + off = (a : Int)) (h : o_1 st (fun y r => some (true, j_1 cnd y a (pc + 3), ll, r, M)) = some (true, S')) (k : A_W p l e R s m args below meth c Q D ty G z0 cs n (m_L mi) c0 S') : A_W p l e R s m args below meth c Q D ty G z0 cs n (m_L mi) c0 (pc, ll, st, M) := by
  obtain ⟨y, r, rfl, h⟩ := o_1_inv h
  cases h
  intro H locs ls hR
  obtain ⟨hP, hD, hS, hz, hle, hl, hv, hw⟩ := hR
  have k1 := fun (hw2 : ∀ z ∈ r, o_v n M.2.2 z) => k H locs ls ⟨hP, hD, hS, hz, hle, hl, hw2, hw⟩
  replace k1 := k1 (v_t hv)
  cases cnd with
  | eq =>
    simp only [j_1] at k1
    refine lv_if_eq (tgt := a) hC.1 hC.2.1 hd ht (fun hc => ?_) (fun hc => ?_)
    · rw [if_pos hc] at k1
      exact k1
    · rw [if_neg hc] at k1
      exact k1
  | ne =>
    simp only [j_1] at k1
    refine lv_if_ne (tgt := a) hC.1 hC.2.1 hd ht (fun hc => ?_) (fun hc => ?_)
    · rw [if_pos hc] at k1
      exact k1
    · rw [if_neg (fun z => z hc)] at k1
      exact k1
  | lt =>
    simp only [j_1] at k1
    refine lv_if_lt (tgt := a) hC.1 hC.2.1 hd ht (fun hc => ?_) (fun hc => ?_)
    · rw [if_pos hc] at k1
      exact k1
    · rw [if_neg hc] at k1
      exact k1
  | ge =>
    simp only [j_1] at k1
    refine lv_if_ge (tgt := a) hC.1 hC.2.1 hd ht (fun hc => ?_) (fun hc => ?_)
    · rw [if_pos hc] at k1
      exact k1
    · rw [if_neg hc] at k1
      exact k1
  | gt =>
    simp only [j_1] at k1
    refine lv_if_gt (tgt := a) hC.1 hC.2.1 hd ht (fun hc => ?_) (fun hc => ?_)
    · rw [if_pos hc] at k1
      exact k1
    · rw [if_neg hc] at k1
      exact k1
  | le =>
    simp only [j_1] at k1
    refine lv_if_le (tgt := a) hC.1 hC.2.1 hd ht (fun hc => ?_) (fun hc => ?_)
    · rw [if_pos hc] at k1
      exact k1
    · rw [if_neg hc] at k1
      exact k1
theorem si_if_icmp (hC : C_X p R s m args meth c D ty G b z0 n L xs mi) {cnd : Jvm.ClassFile.Cond} {off : Int} (hd : decode (m_B mi) pc = .ok (.if_icmp cnd off, 3)) (ht : (pc : Int) + off = (a : Int)) (h : o_2 st (fun p q r => some (true, j_2 cnd p q a (pc + 3), ll, r, M)) = some (true, S')) (k : A_W p l e R s m args below meth c Q D ty G z0 cs n (m_L mi) c0 S') : A_W p l e R s m args below meth c Q D ty G z0 cs n (m_L mi) c0 (pc, ll, st, M) := by
  obtain ⟨p', q', r, rfl, h⟩ := o_2_inv h
  cases h
  intro H locs ls hR
  obtain ⟨hP, hD, hS, hz, hle, hl, hv, hw⟩ := hR
  have k1 := fun (hw2 : ∀ z ∈ r, o_v n M.2.2 z) => k H locs ls ⟨hP, hD, hS, hz, hle, hl, hw2, hw⟩
  replace k1 := k1 (v_t (v_t hv))
  cases cnd with
  | eq =>
    simp only [j_2] at k1
    refine lv_icmp_eq (tgt := a) hC.1 hC.2.1 hd ht (fun hc => ?_) (fun hc => ?_)
    · rw [if_pos hc] at k1
      exact k1
    · rw [if_neg hc] at k1
      exact k1
  | ne =>
    simp only [j_2] at k1
    refine lv_icmp_ne (tgt := a) hC.1 hC.2.1 hd ht (fun hc => ?_) (fun hc => ?_)
    · rw [if_pos hc] at k1
      exact k1
    · rw [if_neg (fun z => z hc)] at k1
      exact k1
  | lt =>
    simp only [j_2] at k1
    refine lv_icmp_lt (tgt := a) hC.1 hC.2.1 hd ht (fun hc => ?_) (fun hc => ?_)
    · rw [if_pos hc] at k1
      exact k1
    · rw [if_neg hc] at k1
      exact k1
  | ge =>
    simp only [j_2] at k1
    refine lv_icmp_ge (tgt := a) hC.1 hC.2.1 hd ht (fun hc => ?_) (fun hc => ?_)
    · rw [if_pos hc] at k1
      exact k1
    · rw [if_neg hc] at k1
      exact k1
  | gt =>
    simp only [j_2] at k1
    refine lv_icmp_gt (tgt := a) hC.1 hC.2.1 hd ht (fun hc => ?_) (fun hc => ?_)
    · rw [if_pos hc] at k1
      exact k1
    · rw [if_neg hc] at k1
      exact k1
  | le =>
    simp only [j_2] at k1
    refine lv_icmp_le (tgt := a) hC.1 hC.2.1 hd ht (fun hc => ?_) (fun hc => ?_)
    · rw [if_pos hc] at k1
      exact k1
    · rw [if_neg hc] at k1
      exact k1
theorem si_goto (hC : C_X p R s m args meth c D ty G b z0 n L xs mi) {off : Int} (hd : decode (m_B mi) pc = .ok (.goto off, 3)) (ht : (pc : Int) + off = (a : Int)) (h : some (true, a, ll, st, M) = some (true, S')) (k : A_W p l e R s m args below meth c Q D ty G z0 cs n (m_L mi) c0 S') : A_W p l e R s m args below meth c Q D ty G z0 cs n (m_L mi) c0 (pc, ll, st, M) := by
  cases h
  intro H locs ls hR
  obtain ⟨hP, hD, hS, hz, hle, hl, hv, hw⟩ := hR
  refine lv_goto (tgt := a) hC.1 hC.2.1 hd ht ?_
  exact k H locs ls ⟨hP, hD, hS, hz, hle, hl, hv, hw⟩
theorem si_tableswitch (hC : C_X p R s m args meth c D ty G b z0 n L xs mi) {d lo hi : Int} {offs : Array Int} {len : Nat} (hd : decode (m_B mi) pc = .ok (.tableswitch d lo hi offs, len)) (h : o_1 st (fun y r => some (s_b pc d lo hi offs y, s_w pc d lo hi offs y, ll, r, M)) = some (true, S')) (k : A_W p l e R s m args below meth c Q D ty G z0 cs n (m_L mi) c0 S') : A_W p l e R s m args below meth c Q D ty G z0 cs n (m_L mi) c0 (pc, ll, st, M) := by
  obtain ⟨y, r, rfl, h⟩ := o_1_inv h
  obtain ⟨h1, rfl⟩ := Prod.mk.inj (Option.some.inj h)
  unfold s_b at h1
  simp only [Bool.and_eq_true, decide_eq_true_eq] at h1
  obtain ⟨h1, h2⟩ := h1
  have h3 : ((s_w pc d lo hi offs y : Nat) : Int) = (pc : Int) + (s_o d lo hi offs y).getD 0 := by
    unfold s_w
    exact Int.toNat_of_nonneg h2
  intro H locs ls hR
  obtain ⟨hP, hD, hS, hz, hle, hl, hv, hw⟩ := hR
  have k1 := k H locs ls ⟨hP, hD, hS, hz, hle, hl, v_t hv, hw⟩
  by_cases hr : y.toInt < lo ∨ hi < y.toInt
  · refine lv_tableOut hC.1 hC.2.1 hd hr ?_ k1
    rw [h3]
    unfold s_o
    rw [if_pos hr]
    rfl
  · unfold s_o at h1 h3
    rw [if_neg hr] at h1 h3
    obtain ⟨off, ho⟩ := Option.isSome_iff_exists.mp h1
    refine lv_tableIn hC.1 hC.2.1 hd (fun z => hr (Or.inl z)) (fun z => hr (Or.inr z)) ho ?_ k1
    rw [h3, ho]
    rfl
end SI
