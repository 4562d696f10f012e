/-! WHAT THE SMALL MACHINE SAYS OF THE MACHINE: values, cells, the world -/
def t_v (G : Nat → Nat → Nat) (x : aV) : Value := match x with
  | .inl y => .int y
  | .inr (.inl q) => .ref (G q.1 q.2)
  | .inr (.inr y) => .long y
def f_v (cs : Bool) (G : Nat → Nat → Nat) (g : Nat → Int32) (s : Nat) (d : Option (Nat × Nat)) : Value := match d with
  | none => .int (g s)
  | some q => cond (cs && decide (g (100 + s) = 0)) .null (.ref (G q.1 q.2))
def r_e (cs : Bool) (G : Nat → Nat → Nat) (k : Nat) (g : Nat → Int32) : Nat → Option Nat := fun j => cond (Nat.ble 50 j || (cs && decide (g (100 + j) = 0))) none (some (G (k_e k j (g j)).1 (k_e k j (g j)).2))
def c_e (cs : Bool) (n : Nat) (ty : Nat → ClassId) (G : Nat → Nat → Nat) (k i : Nat) (g : Nat → Int32) : va_E :=
  cond (Nat.beq (k_c k) 9) (cond (Nat.ble (k_t k) 1) (.inl (ty (k_t k), k_n n k, .inl g)) (.inl (ty (k_t k), k_n n k, .inr (.inr (.inr (.inr (r_e cs G k g))))))) (.inr (k_c k, (k_f k i).mapIdx (f_v cs G g)))
def w_l (cs : Bool) (n : Nat) (ty : Nat → ClassId) (G : Nat → Nat → Nat) (M : aM) : va_W := ((K_T n).take M.2.2).map (fun q => (G q.1 q.2, c_e cs n ty G q.1 q.2 (m_rd M q.1 q.2)))
def o_v (n c : Nat) (x : aV) : Prop := match x with
  | .inr (.inl q) => q ∈ (K_T n).take c ∨ q = (50, 0)
  | _ => True
def l_r (G : Nat → Nat → Nat) (ls : Array Slot) (nL : Nat) (l : List (Option aV)) : Prop := ls.size = nL ∧ l.length = nL ∧ lv_wf ls ∧ ∀ (i : Nat) (x : aV), l[i]? = some (some x) → ls[i]? = some (.val (t_v G x)) ∧ ∀ z, x ≠ .inr (.inr z)
def am_ty (ty : Nat → ClassId) : List (ClassId × FieldType) := [(ty 0, .int), (ty 1, .boolean), (ty 2, .object (R_o 3)), (ty 3, .object (R_o 2))]
/-- the state of the small machine, and the machine's -/
def a_R (D : va_G) (ty : Nat → ClassId) (G : Nat → Nat → Nat) (z0 : Nat) (cs : Bool) (n : Nat) (s : State) (nL : Nat) (S : aS) (H : Heap) (locs : List Loc) (ls : Array Slot) : Prop :=
  va_P D am_cl (w_l cs n ty G S.2.2.2) H ∧ va_D (fun q => z0 ≤ q) (w_l cs n ty G S.2.2.2) ∧ va_S (fun q => z0 ≤ q) s.heap H locs ∧ H.size = z0 + S.2.2.2.2.2 ∧ (S.2.2.2.2.2 ≤ (K_T n).length ∧ (cs = false → S.2.2.2.2.2 = (K_T n).length)) ∧ l_r G ls nL S.2.1 ∧
  (∀ x ∈ S.2.2.1, o_v n S.2.2.2.2.2 x) ∧ ∀ x, some x ∈ S.2.1 → o_v n S.2.2.2.2.2 x
def A_W (p : Program) (l : Launch) (e : Env) (R : Room) (s : State) (m : MethodId) (args : Array Value) (below : List Frame) (meth : Method) (c : Code) (Q : State → Prop) (D : va_G) (ty : Nat → ClassId) (G : Nat → Nat → Nat) (z0 : Nat) (cs : Bool) (n nL c0 : Nat) (S : aS) : Prop :=
  ∀ (H : Heap) (locs : List Loc) (ls : Array Slot), a_R D ty G z0 cs n s nL S H locs ls → W p l e R s m args below meth c H locs (S.2.2.2.2.2 - c0) (s_l n S.2.2.2.2.2 - s_l n c0) Q (F0 m S.1 ls (S.2.2.1.map (t_v G)))
/-- what holds all through a method's walk -/
def C_X (p : Program) (R : Room) (s : State) (m : MethodId) (args : Array Value) (meth : Method) (c : Code) (D : va_G) (ty : Nat → ClassId) (G : Nat → Nat → Nat) (b z0 n L : Nat) (xs : Nat → Int32) (mi : Nat) : Prop :=
  p.tables.exec = Jvm.exec ∧ c.code = m_B mi ∧ c.maxLocals = m_L mi ∧ s.vm.findClass (R_o (m_o mi)) = some m.cls ∧ (∀ w ∈ am_tb, w.before args s = true) ∧ va_K D am_cl (am_ty ty) s ∧ va_X b L xs s s.heap ∧ (b < z0 ∧ z0 ≤ s.heap.size) ∧ (va_AO (R_o 3) s ∧ va_AO (R_o 2) s) ∧
  ((∀ (i : Nat) (q : Nat × Nat), (K_T n)[i]? = some q → G q.1 q.2 = z0 + i) ∧ G 50 0 = b ∧ n ≤ 6) ∧ (1 ≤ R.frames ∧ 24 ≤ R.locals) ∧ (m_k mi = 2 → meth.name = "<init>")
theorem v_t {α : Type} {P : α → Prop} {x : α} {r : List α} (h : ∀ z ∈ x :: r, P z) : ∀ z ∈ r, P z := fun z hz => h z (List.mem_cons_of_mem _ hz)
theorem v_h {α : Type} {P : α → Prop} {x : α} {r : List α} (h : ∀ z ∈ x :: r, P z) : P x := h x List.mem_cons_self
theorem v_c {α : Type} {P : α → Prop} {x : α} {r : List α} (h1 : P x) (h : ∀ z ∈ r, P z) : ∀ z ∈ x :: r, P z := by
  intro z hz
  rcases List.mem_cons.mp hz with rfl | hz
  · exact h1
  · exact h z hz
theorem cat_1 {G : Nat → Nat → Nat} {v : aV} (h : ∀ x, v ≠ .inr (.inr x)) : (t_v G v).category = 1 := by
  rcases v with x | q | x
  · rfl
  · rfl
  · exact absurd rfl (h x)
/-- the locals as the kit's rows have them -/
def l_en (G : Nat → Nat → Nat) (l : List (Option aV)) : List (Nat × Value) := (List.range l.length).filterMap (fun i => match l[i]? with
  | some (some x) => some (i, t_v G x)
  | _ => none)
theorem l_en_mem {G : Nat → Nat → Nat} {l : List (Option aV)} {q : Nat × Value} : q ∈ l_en G l ↔ ∃ x, l[q.1]? = some (some x) ∧ q.2 = t_v G x := by
  unfold l_en
  rw [List.mem_filterMap]
  constructor
  · rintro ⟨i, -, h⟩
    split at h
    · rename_i x e
      cases h
      exact ⟨x, e, rfl⟩
    · cases h
  · rintro ⟨x, h, e⟩
    refine ⟨q.1, List.mem_range.mpr (List.getElem?_eq_some_iff.mp h).1, ?_⟩
    rw [h]
    show some (q.1, t_v G x) = some q
    rw [← e]
theorem l_has {G : Nat → Nat → Nat} {ls : Array Slot} {nL : Nat} {l : List (Option aV)} (h : l_r G ls nL l) : lv_has ls nL (l_en G l) := by
  obtain ⟨h1, h2, h3, h4⟩ := h
  refine ⟨h1, h3, fun q hq => ?_⟩
  obtain ⟨x, hx, e⟩ := l_en_mem.mp hq
  rw [e]
  exact (h4 _ _ hx).1
theorem l_st {G : Nat → Nat → Nat} {ls ls' : Array Slot} {nL a : Nat} {l : List (Option aV)} {v : aV} (h : l_r G ls nL l) (ha : a < nL) (hv : ∀ z, v ≠ .inr (.inr z)) (h' : lv_has ls' nL ((a, t_v G v) :: (l_en G l).filter (fun q => !(q.1 == a) && !(q.1 + 1 == a && q.2.category == 2)))) : l_r G ls' nL (l.set a (some v)) := by
  obtain ⟨h1, h2, h3, h4⟩ := h
  obtain ⟨g1, g2, g3⟩ := h'
  refine ⟨g1, by rw [List.length_set]; exact h2, g2, fun i x hx => ?_⟩
  by_cases hi : i = a
  · subst hi
    rw [List.getElem?_set_self (by omega)] at hx
    cases hx
    exact ⟨g3 _ List.mem_cons_self, hv⟩
  · rw [List.getElem?_set_ne (fun q => hi q.symm)] at hx
    obtain ⟨k1, k2⟩ := h4 i x hx
    refine ⟨g3 (i, t_v G x) (List.mem_cons_of_mem _ (List.mem_filter.mpr ⟨l_en_mem.mpr ⟨x, hx, rfl⟩, ?_⟩)), k2⟩
    have hc := cat_1 (G := G) k2
    simp [hi, hc]
theorem o_set {n c a : Nat} {l : List (Option aV)} {v : aV} (h : ∀ x, some x ∈ l → o_v n c x) (hv : o_v n c v) : ∀ x, some x ∈ l.set a (some v) → o_v n c x := by
  intro x hx
  rcases List.mem_or_eq_of_mem_set hx with q | q
  · exact h x q
  · cases q
    exact hv
theorem l_get {G : Nat → Nat → Nat} {ls : Array Slot} {nL a : Nat} {l : List (Option aV)} {x : aV} (h : l_r G ls nL l) (hx : l[a]? = some (some x)) : ls[a]? = some (.val (t_v G x)) := (h.2.2.2 a x hx).1
-- the world
theorem w_get {cs : Bool} {n : Nat} {ty : Nat → ClassId} {G : Nat → Nat → Nat} {M : aM} {p : Nat} {q : Nat × Nat} (h : ((K_T n).take M.2.2)[p]? = some q) : (w_l cs n ty G M)[p]? = some (G q.1 q.2, c_e cs n ty G q.1 q.2 (m_rd M q.1 q.2)) := by
  unfold w_l
  rw [List.getElem?_map, h]
  rfl
theorem w_setG {cs : Bool} {n : Nat} {ty : Nat → ClassId} {G : Nat → Nat → Nat} {M M' : aM} {A : Nat → Prop} {p k i : Nat} {g : Nat → Int32} {e : va_E} (hD : va_D A (w_l cs n ty G M)) (hp : ((K_T n).take M.2.2)[p]? = some (k, i)) (hM : M'.2.2 = M.2.2) (hg : ∀ k' i', m_rd M' k' i' = if k' = k ∧ i' = i then g else m_rd M k' i') (he : e = c_e cs n ty G k i g) : (w_l cs n ty G M).set p (G k i, e) = w_l cs n ty G M' := by
  have hl : p < (w_l cs n ty G M).length := (List.getElem?_eq_some_iff.mp (w_get (cs := cs) (ty := ty) (G := G) hp)).1
  have hc : ((K_T n).take M'.2.2) = (K_T n).take M.2.2 := by rw [hM]
  refine List.ext_getElem? fun q => ?_
  by_cases hq : q = p
  · subst hq
    rw [List.getElem?_set_self hl, w_get (M := M') (by rw [hc]; exact hp), hg, if_pos ⟨rfl, rfl⟩, he]
  · rw [List.getElem?_set_ne (fun h => hq h.symm)]
    cases hK : ((K_T n).take M.2.2)[q]? with
    | none =>
      unfold w_l
      rw [List.getElem?_map, List.getElem?_map, hc, hK]
      rfl
    | some z =>
      obtain ⟨k', i'⟩ := z
      rw [w_get hK, w_get (M := M') (by rw [hc]; exact hK), hg, if_neg]
      rintro ⟨rfl, rfl⟩
      exact hq (hD.1 q p _ _ (w_get hK) (w_get hp) rfl)
theorem w_set {cs : Bool} {n : Nat} {ty : Nat → ClassId} {G : Nat → Nat → Nat} {M : aM} {A : Nat → Prop} {p k i j : Nat} {x : Int32} {e : va_E} (hD : va_D A (w_l cs n ty G M)) (hp : ((K_T n).take M.2.2)[p]? = some (k, i)) (he : e = c_e cs n ty G k i (upd (m_rd M k i) j x)) : (w_l cs n ty G M).set p (G k i, e) = w_l cs n ty G (m_wr M k i j x) :=
  w_setG hD hp (m_wr_c M k i j x) (fun k' i' => m_rd_wr M k i j x k' i') he
theorem K_nd : ∀ n, n < 7 → (K_T n).Nodup := by decide +kernel
theorem w_al {cs : Bool} {n : Nat} {ty : Nat → ClassId} {G : Nat → Nat → Nat} {M : aM} {q : Nat × Nat} (hn : n ≤ 6) (hp : (K_T n)[M.2.2]? = some q) : w_l cs n ty G (m_al M q.1 q.2) = w_l cs n ty G M ++ [(G q.1 q.2, c_e cs n ty G q.1 q.2 (fun _ => 0))] := by
  have hlt := (List.getElem?_eq_some_iff.mp hp).1
  have hnd := K_nd n (by omega)
  unfold w_l
  rw [m_al_c, List.take_succ, hp]
  simp only [Option.toList_some, List.map_append, List.map_cons, List.map_nil]
  have e1 : m_rd (m_al M q.1 q.2) q.1 q.2 = fun _ => 0 := by rw [m_rd_al, if_pos ⟨rfl, rfl⟩]
  rw [e1]
  congr 1
  refine List.map_congr_left fun z hz => ?_
  have hne : ¬ (z.1 = q.1 ∧ z.2 = q.2) := by
    rintro ⟨h1, h2⟩
    obtain ⟨i, hi⟩ := List.getElem?_of_mem hz
    have hi' : i < M.2.2 := by
      have h3 := (List.getElem?_eq_some_iff.mp hi).1
      rw [List.length_take] at h3
      omega
    rw [List.getElem?_take_of_lt hi'] at hi
    have hzq : z = q := Prod.ext h1 h2
    subst hzq
    obtain ⟨a1, a2⟩ := List.getElem?_eq_some_iff.mp hi
    obtain ⟨b1, b2⟩ := List.getElem?_eq_some_iff.mp hp
    exact (List.pairwise_iff_getElem.mp hnd) i M.2.2 a1 b1 hi' (a2.trans b2.symm)
  rw [m_rd_al, if_neg hne]
theorem s_l_al {n : Nat} {c : Nat} {q : Nat × Nat} (hp : (K_T n)[c]? = some q) : s_l n (c + 1) = s_l n c + k_s n q.1 := by
  unfold s_l
  rw [List.take_succ, hp]
  simp
theorem s_l_le {n a b : Nat} (h : a ≤ b) : s_l n a ≤ s_l n b := by
  unfold s_l
  have e : (K_T n).take b = (K_T n).take a ++ ((K_T n).take b).drop a := by
    conv => lhs; rw [← List.take_append_drop a ((K_T n).take b)]
    rw [List.take_take, Nat.min_eq_left h]
  rw [e, List.map_append, List.sum_append]
  omega
theorem r_cat {G : Nat → Nat → Nat} (r : List aV) : ((r.map (t_v G)).map fun v => v.category).sum ≤ 2 * r.length := by
  induction r with
  | nil => exact Nat.le_refl _
  | cons x r ih =>
    simp only [List.map_cons, List.sum_cons, List.length_cons]
    have h := lv_cat (t_v G x)
    omega
