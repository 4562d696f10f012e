/-! OUT OF THE CONSTRUCTORS: no reference is null -/
theorem re_tf {G : Nat → Nat → Nat} {k : Nat} {g : Nat → Int32} {j : Nat} (h : ¬ g (100 + j) = 0) : r_e true G k g j = r_e false G k g j := by
  simp [r_e, h]
theorem fv_tf {G : Nat → Nat → Nat} {g : Nat → Int32} {fs : List (Option (Nat × Nat))} (h : ∀ s, s < fs.length → fs.getD s none = none ∨ ¬ g (100 + s) = 0) : fs.mapIdx (f_v true G g) = fs.mapIdx (f_v false G g) := by
  refine List.ext_getElem? (fun s => ?_)
  rw [List.getElem?_mapIdx, List.getElem?_mapIdx]
  cases hs : fs[s]? with
  | none => rfl
  | some d =>
    cases d with
    | none => rfl
    | some q =>
      have hlt : s < fs.length := (List.getElem?_eq_some_iff.mp hs).1
      rcases h s hlt with z | z
      · rw [List.getD_eq_getElem?_getD, hs] at z
        cases z
      · simp [f_v, z]
theorem at_tf {D : va_G} {n : Nat} {ty : Nat → ClassId} {G : Nat → Nat → Nat} {M : aM} {q : Nat × Nat} {a : Nat} {H : Heap} (hf : f_ok n M q = true) (h : va_at D am_cl (a, c_e true n ty G q.1 q.2 (m_rd M q.1 q.2)) H) : va_at D am_cl (a, c_e false n ty G q.1 q.2 (m_rd M q.1 q.2)) H := by
  unfold f_ok at hf
  rw [Bool.and_eq_true] at hf
  obtain ⟨h1, h2⟩ := hf
  unfold c_e at h ⊢
  cases hb : Nat.beq (k_c q.1) 9 with
  | true =>
    rw [hb] at h h2
    cases ht : Nat.ble (k_t q.1) 1 with
    | true =>
      rw [ht] at h
      exact h
    | false =>
      rw [ht] at h h2
      have h3 : ∀ j, j < k_n n q.1 → ¬ m_rd M q.1 q.2 (100 + j) = 0 := by
        intro j hj
        have h4 : (List.range (k_n n q.1)).all (fun j => !(decide (m_rd M q.1 q.2 (100 + j) = 0))) = true := by simpa using h2
        have := List.all_eq_true.mp h4 j (List.mem_range.mpr hj)
        simpa using this
      have h5 : H[a]? = some (arrV (ty (k_t q.1)) (k_n n q.1) (fun j => va_rf (r_e true G q.1 (m_rd M q.1 q.2) j))) := h
      show H[a]? = some (arrV (ty (k_t q.1)) (k_n n q.1) (fun j => va_rf (r_e false G q.1 (m_rd M q.1 q.2) j)))
      rw [h5]
      have h6 : (fun j : Fin (k_n n q.1) => va_rf (r_e true G q.1 (m_rd M q.1 q.2) j.val)) = fun j : Fin (k_n n q.1) => va_rf (r_e false G q.1 (m_rd M q.1 q.2) j.val) := by
        funext j
        rw [re_tf (h3 j.val j.isLt)]
      unfold arrV
      rw [h6]
  | false =>
    rw [hb] at h
    have h3 := fv_tf (G := G) (g := m_rd M q.1 q.2) (fs := k_f q.1 q.2) (by
      intro s hs
      have := List.all_eq_true.mp h1 s (List.mem_range.mpr hs)
      simpa [Option.isNone_iff_eq_none] using this)
    have h4 : va_at D am_cl (a, Sum.inr (k_c q.1, (k_f q.1 q.2).mapIdx (f_v true G (m_rd M q.1 q.2)))) H := h
    show va_at D am_cl (a, Sum.inr (k_c q.1, (k_f q.1 q.2).mapIdx (f_v false G (m_rd M q.1 q.2)))) H
    rw [← h3]
    exact h4
theorem w_tf {D : va_G} {n : Nat} {ty : Nat → ClassId} {G : Nat → Nat → Nat} {M : aM} {H : Heap} (hf : (K_T n).all (f_ok n M) = true) (h : va_P D am_cl (w_l true n ty G M) H) : va_P D am_cl (w_l false n ty G M) H := by
  intro k q hq
  unfold w_l at hq
  rw [List.getElem?_map] at hq
  obtain ⟨key, hk, e⟩ := Option.map_eq_some_iff.mp hq
  subst e
  refine at_tf (List.all_eq_true.mp hf key (List.mem_of_mem_take (List.mem_of_getElem? hk))) (h k _ ?_)
  unfold w_l
  rw [List.getElem?_map, hk]
  rfl
theorem w_1 {n : Nat} {ty : Nat → ClassId} {G : Nat → Nat → Nat} {M : aM} {k : Nat} {q : Nat × va_E} (h : (w_l false n ty G M)[k]? = some q) : ∃ q', (w_l true n ty G M)[k]? = some q' ∧ q'.1 = q.1 := by
  unfold w_l at h ⊢
  rw [List.getElem?_map] at h ⊢
  obtain ⟨key, hk, e⟩ := Option.map_eq_some_iff.mp h
  subst e
  rw [hk]
  exact ⟨_, rfl, rfl⟩
theorem w_td {n : Nat} {ty : Nat → ClassId} {G : Nat → Nat → Nat} {M : aM} {A : Nat → Prop} (h : va_D A (w_l true n ty G M)) : va_D A (w_l false n ty G M) := by
  refine ⟨fun i j p q hp hq e => ?_, fun k q hq => ?_⟩
  · obtain ⟨p', h1, h2⟩ := w_1 hp
    obtain ⟨q', h3, h4⟩ := w_1 hq
    exact h.1 i j p' q' h1 h3 (by rw [h2, h4]; exact e)
  · obtain ⟨q', h3, h4⟩ := w_1 hq
    rw [← h4]
    exact h.2 k q' h3
set_option maxHeartbeats 4000000 in
theorem ws_at {p : Program} {e : Env} {s : State} {m : MethodId} {below : List Frame} {meth : Method} {c : Code} (l : Launch) {b L : Nat} {xs : Nat → Int32} (C0 : lw_At p s m meth c b L xs) {n : Nat} (hn : n ≤ 6) {M1 : aM} {ll : List (Option aV)} {pcl : Nat} (hw : (K_T n).all (f_ok n M1) = true) (hc1 : M1.2.2 = (K_T n).length)
    (h1 : G_o true n L xs (E_v true n L xs 7) (m_C 83) (fun S => S = (pcl, ll, [], M1)) (0, i_L 83 [.inr (.inl (50, 0))], [], (fun _ _ _ => 0, fun _ _ _ => 0, 0)))
    (h2 : G_o false n L xs (E_v false n L xs 7) (m_C 83) (fun S => ∃ M2, r_F (m_C 83) S = some (true, some (.inl 1), M2) ∧ M2.2.2 = (K_T n).length) (pcl, ll, [], M1)) :
    W p l e room_1 s m #[Value.ref b] below meth c s.heap [] 0 0 (lw_Z below #[Value.ref b] s) (entryFrame m ([Value.ref b] : List Value).toArray 4) := by
  obtain ⟨hx, hb, hr, hml, hown, hts, hX, hbl, hlocks, hgv⟩ := id C0
  have hts1 : ∀ w ∈ am_tb, w.before #[Value.ref b] s = true := fun w hw => hts w (tb_in w hw)
  have hAO : va_AO (R_o 3) s ∧ va_AO (R_o 2) s := ⟨va_AO.of (hts _ tb_nd.1), va_AO.of (hts _ tb_nd.2)⟩
  obtain ⟨D, hD⟩ := ks_pos hts1
  obtain ⟨t0, a0, b0⟩ := ty_prim (hts1 _ tb_aI) (fun _ q => by cases q)
  obtain ⟨t1, a1, b1⟩ := ty_prim (hts1 _ tb_aZ) (fun _ q => by cases q)
  obtain ⟨t2, a2, b2⟩ := ty_obj hAO.1
  obtain ⟨t3, a3, b3⟩ := ty_obj hAO.2
  obtain ⟨G, hG1, hG2⟩ := G_pos n s.heap.size b hn
  obtain ⟨ty, hty⟩ : ∃ ty : Nat → ClassId, ty 0 = t0 ∧ ty 1 = t1 ∧ ty 2 = t2 ∧ ty 3 = t3 := ⟨fun k => [t0, t1, t2, t3].getD k 0, rfl, rfl, rfl, rfl⟩
  obtain ⟨rfl, rfl, rfl, rfl⟩ := hty
  have hK : va_K D am_cl (am_ty ty) s := by
    refine ⟨hD, fun k q hq => ?_⟩
    match k, hq with
    | 0, hq => cases hq; exact ⟨a0, b0⟩
    | 1, hq => cases hq; exact ⟨a1, b1⟩
    | 2, hq => cases hq; exact ⟨a2, b2⟩
    | 3, hq => cases hq; exact ⟨a3, b3⟩
    | k + 4, hq => simp [am_ty] at hq
  have hCX : C_X p room_1 s m #[Value.ref b] meth c D ty G b s.heap.size n L xs 83 :=
    ⟨hx, hb, hml, hown, hts1, hK, hX, ⟨hbl, Nat.le_refl _⟩, hAO, ⟨hG1, hG2, hn⟩, ⟨Nat.le_of_ble_eq_true rfl, Nat.le_of_ble_eq_true rfl⟩, fun h => absurd h (by decide)⟩
  have hGG : (∀ (i : Nat) (q : Nat × Nat), (K_T n)[i]? = some q → G q.1 q.2 = s.heap.size + i) ∧ G 50 0 = b ∧ n ≤ 6 := ⟨hG1, hG2, hn⟩
  have hroom : 7 + 1 ≤ room_1.frames ∧ 40 * (7 + 1) ≤ room_1.locals := ⟨Nat.le_of_ble_eq_true rfl, Nat.le_of_ble_eq_true rfl⟩
  obtain ⟨kl1, kl2⟩ := k_len n (by omega)
  have hrc : ∀ c1, c1 ≤ (K_T n).length → c1 - 0 ≤ room_1.cells ∧ s_l n c1 - s_l n 0 ≤ room_1.slots := by
    intro c1 hc
    have h3 := s_l_le (n := n) hc
    have e1 : room_1.cells = 600412 := rfl
    have e2 : room_1.slots = 7301013 := rfl
    rw [e1, e2]
    omega
  obtain ⟨k2, S2, hP2, M2, hret, hM2⟩ := h2
  obtain ⟨k1, S1, hP1, hS1⟩ := h1
  subst hS1
  have hfin : A_W p l e room_1 s m #[Value.ref b] below meth c (lw_Z below #[Value.ref b] s) D ty G s.heap.size false n (m_L 83) 0 S2 := by
    have hM := r_F_M hret
    obtain ⟨pc, l2, st, M⟩ := S2
    unfold r_F at hret
    dsimp only at hret hM
    intro H locs ls hR
    obtain ⟨hP, hDD, hS, hz, hle, hl, hv, hw2⟩ := hR
    dsimp only at hP hDD hS hz hle hl hv hw2
    split at hret
    · cases hret
    · rename_i en hen
      obtain ⟨i, a, bb, x⟩ := en
      obtain ⟨hd, hk⟩ := cd_ok 83 (Nat.le_refl _) pc i a bb x hen
      dsimp only at hret
      unfold r_I at hret
      split at hret
      · obtain ⟨v, r, rfl, h3⟩ := o_1_inv hret
        split at h3
        · have h4 := (Prod.mk.inj (Option.some.inj h3)).2
          have h5 := (Prod.mk.inj h4).1
          cases h5
          refine va_forget hS.2.2 ?_
          refine W.widen (k := 600412) (n := 7301013) ?_ ?_ ?_
          · dsimp only
            omega
          · dsimp only
            have h3 := s_l_le (n := n) hle.1
            omega
          · exact lw_ret hx hb hr hlocks hd
        · cases h3
      · obtain ⟨v, r, rfl, h3⟩ := o_R_inv hret
        split at h3 <;> cases h3
      · split at hret <;> cases hret
      · split at hret <;> cases hret
      · cases hret
  have hmid : A_W p l e room_1 s m #[Value.ref b] below meth c (lw_Z below #[Value.ref b] s) D ty G s.heap.size false n (m_L 83) 0 (pcl, ll, [], M1) := by
    intro H locs ls hR
    have hc2 : S2.2.2.2.2.2 ≤ (K_T n).length := by
      rw [r_F_M hret, hM2]
      exact Nat.le_refl _
    exact am_path (d := 7) hCX rfl hroom (cd_ok 83 (Nat.le_refl _)) (am_met hbl hGG 7) (E_lt 7) k2 _ S2 hP2 (Nat.zero_le _) (hrc _ hc2) hfin H locs ls hR
  have hmid2 : A_W p l e room_1 s m #[Value.ref b] below meth c (lw_Z below #[Value.ref b] s) D ty G s.heap.size true n (m_L 83) 0 (pcl, ll, [], M1) := by
    intro H locs ls hR
    obtain ⟨hP, hDD, hS, hz, hle, hl, hv, hw2⟩ := hR
    dsimp only at hP hDD hle
    exact hmid H locs ls ⟨w_tf hw hP, w_td hDD, hS, hz, ⟨hle.1, fun _ => hc1⟩, hl, hv, hw2⟩
  have hst := am_path (d := 7) hCX rfl hroom (cd_ok 83 (Nat.le_refl _)) (am_met hbl hGG 7) (E_lt 7) k1 _ _ hP1 (Nat.zero_le _) (hrc _ (by dsimp only; omega)) hmid2
  rw [lg_entry_eq]
  have hl := l_in (G := G) (mi := 83) (av := [.inr (.inl (50, 0))]) (Nat.le_of_ble_eq_true rfl) (fun x hx => by rw [List.mem_singleton.mp hx]; rfl)
  have hf := hst s.heap [] _ ⟨(fun k q h => by simp [w_l] at h), ⟨(fun i j p q h => by simp [w_l] at h), (fun k q h => by simp [w_l] at h)⟩, va_S.rf, rfl, ⟨Nat.zero_le _, (fun h => by cases h)⟩, hl, (fun x hx => by cases hx), fun x hx => ?_⟩
  · have e1 : (List.map (t_v G) [Sum.inr (Sum.inl (50, 0))]) = [Value.ref b] := by
      show [Value.ref (G 50 0)] = _
      rw [hG2]
    rw [e1] at hf
    exact hf
  · have : x = Sum.inr (Sum.inl (50, 0)) := by
      have h9 : some x ∈ [some (Sum.inr (Sum.inl (50, 0)) : aV), none, none, none] := hx
      simpa using h9
    rw [this]
    exact Or.inr rfl
