/-! THE LAW OUT OF THE SMALL MACHINE -/
theorem ks_pos {s : State} {args : Array Value} (hts : ∀ w ∈ am_tb, w.before args s = true) : ∃ D : va_G, ∀ (k : Nat) (q : vw_C), am_cl[k]? = some q → u_Kn s q.1 q.2.1 q.2.2 (D.1 k) (D.2 k) := by
  have h : ∀ k, ∃ z : ClassId × (Nat → Nat), k < 6 → u_Kn s (R_o k) (T_o k) (N_c k) z.1 z.2 := by
    intro k
    by_cases hk : k < 6
    · obtain ⟨w1, w2, w3, w4, w5, w6⟩ := c_ok k hk
      obtain ⟨cC, iS, hh⟩ := u_known hts w1 (hts _ w5)
      exact ⟨(cC, iS), fun _ => hh⟩
    · exact ⟨(0, fun _ => 0), fun z => absurd z hk⟩
  refine ⟨(fun k => (Classical.choose (h k)).1, fun k => (Classical.choose (h k)).2), fun k q hq => ?_⟩
  have hk : k < 6 := (List.getElem?_eq_some_iff.mp hq).1
  rw [cl_at k hk] at hq
  cases hq
  exact Classical.choose_spec (h k) hk
theorem ty_prim {s : State} {args : Array Value} {t : FieldType} (h : (Cond.arrayClass t).before args s = true) (ht : ∀ C, t ≠ .object C) : ∃ cA, ArrOfT s cA t ∧ va_RA s cA t := by
  obtain ⟨cA, kA, comp, h1, h2, h3⟩ := Cond.arrayClass_spec h
  refine ⟨cA, fun n z => ⟨fun k h => (by cases h), kA, h2, comp, h3⟩, ?_⟩
  cases t with
  | object C => exact absurd rfl (ht C)
  | _ => exact h1
theorem ty_obj {s : State} {C : String} (h : va_AO C s) : ∃ cA, ArrOfT s cA (.object C) ∧ va_RA s cA (.object C) := by
  obtain ⟨comp, cA, kA, h1, h2, h3, h4, h5⟩ := Cond.arrayOver_spec h
  exact ⟨cA, fun n z => ⟨fun k h => (by cases h), kA, h3, comp, h4⟩, kA, comp, h3, h4, h1, h5⟩
theorem G_pos (n z0 b : Nat) (hn : n ≤ 6) : ∃ G : Nat → Nat → Nat, (∀ (i : Nat) (q : Nat × Nat), (K_T n)[i]? = some q → G q.1 q.2 = z0 + i) ∧ G 50 0 = b := by
  have hnd := K_nd n (by omega)
  refine ⟨fun k i => @dite Nat (∃ j, (K_T n)[j]? = some (k, i)) (Classical.propDecidable _) (fun h => z0 + Classical.choose h) (fun _ => b), fun i q hq => ?_, ?_⟩
  · have hex : ∃ j, (K_T n)[j]? = some (q.1, q.2) := ⟨i, hq⟩
    dsimp only
    rw [dif_pos hex]
    have h1 := Classical.choose_spec hex
    have h2 : Classical.choose hex = i := by
      obtain ⟨a1, a2⟩ := List.getElem?_eq_some_iff.mp h1
      obtain ⟨b1, b2⟩ := List.getElem?_eq_some_iff.mp hq
      rcases Nat.lt_trichotomy (Classical.choose hex) i with z | z | z
      · exact absurd (a2.trans b2.symm) ((List.pairwise_iff_getElem.mp hnd) _ _ a1 b1 z)
      · exact z
      · exact absurd (b2.trans a2.symm) ((List.pairwise_iff_getElem.mp hnd) _ _ b1 a1 z)
    rw [h2]
  · have hno : ¬ ∃ j : Nat, (K_T n)[j]? = some (50, 0) := by
      rintro ⟨j, hj⟩
      have := K_k n (by omega) _ (List.mem_of_getElem? hj)
      omega
    dsimp only
    rw [dif_neg hno]
theorem tb_in : ∀ w ∈ am_tb, w ∈ lw_tbl := fun w hw => (List.mem_filter.mp hw).1
theorem tb_nd : Cond.arrayOver (.object (R_o 3)) ∈ lw_tbl ∧ Cond.arrayOver (.object (R_o 2)) ∈ lw_tbl := by decide +kernel
theorem k_len : ∀ n, n < 7 → (K_T n).length ≤ 600412 ∧ s_l n (K_T n).length ≤ 7301013 := by decide +kernel
set_option maxHeartbeats 4000000 in
theorem ws_of {p : Program} {e : Env} {s : State} {m : MethodId} {below : List Frame} {meth : Method} {c : Code} (l : Launch) {b L : Nat} {xs : Nat → Int32} (C0 : lw_At p s m meth c b L xs) {n : Nat} (hn : n ≤ 6) {M1 : aM} {ll : List (Option aV)} {pcl : Nat} (hw : ∀ (ty : Nat → ClassId) (G : Nat → Nat → Nat), w_l true n ty G M1 = w_l false n ty G M1) (hc1 : M1.2.2 = (K_T n).length)
    (h1 : G_o true n L xs (E_v true n L xs 7) (m_C 83) (fun S => S = (pcl, ll, [], M1)) (0, i_L 83 [.inr (.inl (50, 0))], [], (fun _ _ _ => 0, fun _ _ _ => 0, 0)))
    (h2 : G_o false n L xs (E_v false n L xs 7) (m_C 83) (fun S => ∃ M2, r_F (m_C 83) S = some (true, some (.inl 1), M2) ∧ M2.2.2 = (K_T n).length) (pcl, ll, [], M1)) :
    W p l e room_1 s m #[Value.ref b] below meth c s.heap [] 0 0 (lw_Z below #[Value.ref b] s) (entryFrame m ([Value.ref b] : List Value).toArray 4) := by
  obtain ⟨hx, hb, hr, hml, hown, hts, hX, hbl, hlocks, hgv⟩ := id C0
  have hts1 : ∀ w ∈ am_tb, w.before #[Value.ref b] s = true := fun w hw => hts w (tb_in w hw)
  have hAO : va_AO (R_o 3) s ∧ va_AO (R_o 2) s := ⟨va_AO.of (hts _ tb_nd.1), va_AO.of (hts _ tb_nd.2)⟩
  obtain ⟨D, hD⟩ := ks_pos hts1
  obtain ⟨t0, a0, b0⟩ := ty_prim (hts1 _ tb_aI) (fun _ q => by cases q)
  obtain ⟨t1, a1, b1⟩ := ty_prim (hts1 _ tb_aZ) (fun _ q => by cases q)
  obtain ⟨t2, a2, b2⟩ := ty_obj hAO.1
  obtain ⟨t3, a3, b3⟩ := ty_obj hAO.2
  obtain ⟨G, hG1, hG2⟩ := G_pos n s.heap.size b hn
  obtain ⟨ty, hty⟩ : ∃ ty : Nat → ClassId, ty 0 = t0 ∧ ty 1 = t1 ∧ ty 2 = t2 ∧ ty 3 = t3 := ⟨fun k => [t0, t1, t2, t3].getD k 0, rfl, rfl, rfl, rfl⟩
  obtain ⟨rfl, rfl, rfl, rfl⟩ := hty
  have hK : va_K D am_cl (am_ty ty) s := by
    refine ⟨hD, fun k q hq => ?_⟩
    match k, hq with
    | 0, hq => cases hq; exact ⟨a0, b0⟩
    | 1, hq => cases hq; exact ⟨a1, b1⟩
    | 2, hq => cases hq; exact ⟨a2, b2⟩
    | 3, hq => cases hq; exact ⟨a3, b3⟩
    | k + 4, hq => simp [am_ty] at hq
  have hCX : C_X p room_1 s m #[Value.ref b] meth c D ty G b s.heap.size n L xs 83 :=
    ⟨hx, hb, hml, hown, hts1, hK, hX, ⟨hbl, Nat.le_refl _⟩, hAO, ⟨hG1, hG2, hn⟩, ⟨Nat.le_of_ble_eq_true rfl, Nat.le_of_ble_eq_true rfl⟩, fun h => absurd h (by decide)⟩
  have hGG : (∀ (i : Nat) (q : Nat × Nat), (K_T n)[i]? = some q → G q.1 q.2 = s.heap.size + i) ∧ G 50 0 = b ∧ n ≤ 6 := ⟨hG1, hG2, hn⟩
  have hroom : 7 + 1 ≤ room_1.frames ∧ 40 * (7 + 1) ≤ room_1.locals := ⟨Nat.le_of_ble_eq_true rfl, Nat.le_of_ble_eq_true rfl⟩
  obtain ⟨kl1, kl2⟩ := k_len n (by omega)
  have hrc : ∀ c1, c1 ≤ (K_T n).length → c1 - 0 ≤ room_1.cells ∧ s_l n c1 - s_l n 0 ≤ room_1.slots := by
    intro c1 hc
    have h3 := s_l_le (n := n) hc
    have e1 : room_1.cells = 600412 := rfl
    have e2 : room_1.slots = 7301013 := rfl
    rw [e1, e2]
    omega
  obtain ⟨k2, S2, hP2, M2, hret, hM2⟩ := h2
  obtain ⟨k1, S1, hP1, hS1⟩ := h1
  subst hS1
  have hfin : A_W p l e room_1 s m #[Value.ref b] below meth c (lw_Z below #[Value.ref b] s) D ty G s.heap.size false n (m_L 83) 0 S2 := by
    have hM := r_F_M hret
    obtain ⟨pc, l2, st, M⟩ := S2
    unfold r_F at hret
    dsimp only at hret hM
    intro H locs ls hR
    obtain ⟨hP, hDD, hS, hz, hle, hl, hv, hw2⟩ := hR
    dsimp only at hP hDD hS hz hle hl hv hw2
    split at hret
    · cases hret
    · rename_i en hen
      obtain ⟨i, a, bb, x⟩ := en
      obtain ⟨hd, hk⟩ := cd_ok 83 (Nat.le_refl _) pc i a bb x hen
      dsimp only at hret
      unfold r_I at hret
      split at hret
      · obtain ⟨v, r, rfl, h3⟩ := o_1_inv hret
        split at h3
        · have h4 := (Prod.mk.inj (Option.some.inj h3)).2
          have h5 := (Prod.mk.inj h4).1
          cases h5
          refine va_forget hS.2.2 ?_
          refine W.widen (k := 600412) (n := 7301013) ?_ ?_ ?_
          · dsimp only
            omega
          · dsimp only
            have h3 := s_l_le (n := n) hle.1
            omega
          · exact lw_ret hx hb hr hlocks hd
        · cases h3
      · obtain ⟨v, r, rfl, h3⟩ := o_R_inv hret
        split at h3 <;> cases h3
      · split at hret <;> cases hret
      · split at hret <;> cases hret
      · cases hret
  have hmid : A_W p l e room_1 s m #[Value.ref b] below meth c (lw_Z below #[Value.ref b] s) D ty G s.heap.size false n (m_L 83) 0 (pcl, ll, [], M1) := by
    intro H locs ls hR
    have hc2 : S2.2.2.2.2.2 ≤ (K_T n).length := by
      rw [r_F_M hret, hM2]
      exact Nat.le_refl _
    exact am_path (d := 7) hCX rfl hroom (cd_ok 83 (Nat.le_refl _)) (am_met hbl hGG 7) (E_lt 7) k2 _ S2 hP2 (Nat.zero_le _) (hrc _ hc2) hfin H locs ls hR
  have hmid2 : A_W p l e room_1 s m #[Value.ref b] below meth c (lw_Z below #[Value.ref b] s) D ty G s.heap.size true n (m_L 83) 0 (pcl, ll, [], M1) := by
    intro H locs ls hR
    obtain ⟨hP, hDD, hS, hz, hle, hl, hv, hw2⟩ := hR
    dsimp only at hP hDD hle
    rw [hw ty G] at hP hDD
    exact hmid H locs ls ⟨hP, hDD, hS, hz, ⟨hle.1, fun _ => hc1⟩, hl, hv, hw2⟩
  have hst := am_path (d := 7) hCX rfl hroom (cd_ok 83 (Nat.le_refl _)) (am_met hbl hGG 7) (E_lt 7) k1 _ _ hP1 (Nat.zero_le _) (hrc _ (by dsimp only; omega)) hmid2
  rw [lg_entry_eq]
  have hl := l_in (G := G) (mi := 83) (av := [.inr (.inl (50, 0))]) (Nat.le_of_ble_eq_true rfl) (fun x hx => by rw [List.mem_singleton.mp hx]; rfl)
  have hf := hst s.heap [] _ ⟨(fun k q h => by simp [w_l] at h), ⟨(fun i j p q h => by simp [w_l] at h), (fun k q h => by simp [w_l] at h)⟩, va_S.rf, rfl, ⟨Nat.zero_le _, (fun h => by cases h)⟩, hl, (fun x hx => by cases hx), fun x hx => ?_⟩
  · have e1 : (List.map (t_v G) [Sum.inr (Sum.inl (50, 0))]) = [Value.ref b] := by
      show [Value.ref (G 50 0)] = _
      rw [hG2]
    rw [e1] at hf
    exact hf
  · have : x = Sum.inr (Sum.inl (50, 0)) := by
      have h9 : some x ∈ [some (Sum.inr (Sum.inl (50, 0)) : aV), none, none, none] := hx
      simpa using h9
    rw [this]
    exact Or.inr rfl
