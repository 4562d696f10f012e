set_option maxRecDepth 100000 in
theorem e_m_age (d : Nat) {n L : Nat} {xs : Nat → Int32} {v u : mV} {c : Nat} {a : Nat} (hn : n ≤ 6) (hf : F_m n u) (ha : a < n) : E_v false n L xs (d + 2) 65 [Sum.inr (Sum.inl (20, 0)), Sum.inl (nI a)] (v, u, c) none (v, d_ag u a n, c) := by
  refine E_mk mc_65 (by decide) ?_
  refine G_steps 2 (S1 := (2, [some (Sum.inr (Sum.inl (20, 0))), some (Sum.inl (nI a)), some (Sum.inl (nI 0)), none], [], (v, d_ag u a 0, c))) rfl rfl ?_
  refine G_lox (S := fun k o => (2, [some (Sum.inr (Sum.inl (20, 0))), some (Sum.inl (nI a)), some (Sum.inl (nI k)), o], [], (v, d_ag u a k, c))) (N := n) (fun k hk o K => ?_) (fun o => ?_) none
  · skip
    refine G_steps 3 (S1 := (7, [some (Sum.inr (Sum.inl (20, 0))), some (Sum.inl (nI a)), some (Sum.inl (nI k)), o], [Sum.inl ((d_ag u a k) 20 0 0), Sum.inl (nI k)], (v, d_ag u a k, c))) rfl rfl ?_
    refine G_top ((congrFun (congrFun (dag_k (k := 20) rfl) 0) 0).trans hf) ?_
    refine G_steps 1 (S1 := (if nI n ≤ nI k then 85 else 10, [some (Sum.inr (Sum.inl (20, 0))), some (Sum.inl (nI a)), some (Sum.inl (nI k)), o], [], (v, d_ag u a k, c))) rfl rfl ?_
    refine G_iF (fun z => absurd ((nI_le' (by omega) (by omega)).mp z) (by omega)) ?_
    refine G_steps 3 (S1 := (14, [some (Sum.inr (Sum.inl (20, 0))), some (Sum.inl (nI a)), some (Sum.inl (nI k)), o], [Sum.inl (6 * (nI a))], (v, d_ag u a k, c))) rfl rfl ?_
    refine G_top (nI_mul 6 a) ?_
    refine G_steps 2 (S1 := (16, [some (Sum.inr (Sum.inl (20, 0))), some (Sum.inl (nI a)), some (Sum.inl (nI k)), o], [Sum.inl ((nI (6 * a)) + (nI k))], (v, d_ag u a k, c))) rfl rfl ?_
    refine G_top (nI_ad (6 * a) k) ?_
    refine G_steps 4 (S1 := (if nI k = nI a then 79 else 22, [some (Sum.inr (Sum.inl (20, 0))), some (Sum.inl (nI a)), some (Sum.inl (nI k)), some (Sum.inl (nI (6 * a + k)))], [], (v, d_ag u a k, c))) rfl rfl ?_
    refine G_if (fun h1 => ?_) (fun h1 => ?_)
    · skip
      refine G_steps 2 (S1 := (2, [some (Sum.inr (Sum.inl (20, 0))), some (Sum.inl (nI a)), some (Sum.inl ((nI k) + 1)), some (Sum.inl (nI (6 * a + k)))], [], (v, d_ag u a k, c))) rfl rfl ?_
      exact G_is (by simp only [d_ag, d_ag1, nI_succ, if_pos h1]) (K (some (Sum.inl (nI (6 * a + k)))))
    · skip
      refine G_steps 3 (S1 := (27, [some (Sum.inr (Sum.inl (20, 0))), some (Sum.inl (nI a)), some (Sum.inl (nI k)), some (Sum.inl (nI (6 * a + k)))], [Sum.inl (nI (6 * a + k)), Sum.inr (Sum.inl (22, 0))], (v, d_ag u a k, c))) rfl rfl ?_
      refine G_step (S1 := (28, [some (Sum.inr (Sum.inl (20, 0))), some (Sum.inl (nI a)), some (Sum.inl (nI k)), some (Sum.inl (nI (6 * a + k)))], [Sum.inl ((d_ag u a k) 22 0 (ix (nI (6 * a + k))))], (v, d_ag u a k, c))) rfl (ib_nI (j := (6 * a + k)) (len := 36) (by omega) (by omega)) ?_
      rw [ix_nI (j := (6 * a + k)) (by omega)]
      refine G_steps 2 (S1 := (if ¬ (d_ag u a k) 22 0 (6 * a + k) = 1 then 79 else 32, [some (Sum.inr (Sum.inl (20, 0))), some (Sum.inl (nI a)), some (Sum.inl (nI k)), some (Sum.inl (nI (6 * a + k)))], [], (v, d_ag u a k, c))) rfl rfl ?_
      refine G_ifn (fun h2 => ?_) (fun h2 => ?_)
      · skip
        refine G_steps 2 (S1 := (2, [some (Sum.inr (Sum.inl (20, 0))), some (Sum.inl (nI a)), some (Sum.inl ((nI k) + 1)), some (Sum.inl (nI (6 * a + k)))], [], (v, d_ag u a k, c))) rfl rfl ?_
        exact G_is (by simp only [d_ag, d_ag1, nI_succ, if_neg h1, if_neg h2]) (K (some (Sum.inl (nI (6 * a + k)))))
      · skip
        refine G_steps 4 (S1 := (38, [some (Sum.inr (Sum.inl (20, 0))), some (Sum.inl (nI a)), some (Sum.inl (nI k)), some (Sum.inl (nI (6 * a + k)))], [Sum.inl (nI (6 * a + k)), Sum.inr (Sum.inl (24, 0)), Sum.inl (nI (6 * a + k)), Sum.inr (Sum.inl (24, 0))], (v, d_ag u a k, c))) rfl rfl ?_
        refine G_step (S1 := (39, [some (Sum.inr (Sum.inl (20, 0))), some (Sum.inl (nI a)), some (Sum.inl (nI k)), some (Sum.inl (nI (6 * a + k)))], [Sum.inl ((d_ag u a k) 24 0 (ix (nI (6 * a + k)))), Sum.inl (nI (6 * a + k)), Sum.inr (Sum.inl (24, 0))], (v, d_ag u a k, c))) rfl (ib_nI (j := (6 * a + k)) (len := 36) (by omega) (by omega)) ?_
        rw [ix_nI (j := (6 * a + k)) (by omega)]
        refine G_steps 2 (S1 := (41, [some (Sum.inr (Sum.inl (20, 0))), some (Sum.inl (nI a)), some (Sum.inl (nI k)), some (Sum.inl (nI (6 * a + k)))], [Sum.inl (((d_ag u a k) 24 0 (6 * a + k)) + 1), Sum.inl (nI (6 * a + k)), Sum.inr (Sum.inl (24, 0))], (v, d_ag u a k, c))) rfl rfl ?_
        refine G_step (S1 := (42, [some (Sum.inr (Sum.inl (20, 0))), some (Sum.inl (nI a)), some (Sum.inl (nI k)), some (Sum.inl (nI (6 * a + k)))], [], (v, m_u3 (d_ag u a k) 24 0 (ix (nI (6 * a + k))) (((d_ag u a k) 24 0 (6 * a + k)) + 1), c))) rfl (ib_nI (j := (6 * a + k)) (len := 36) (by omega) (by omega)) ?_
        rw [ix_nI (j := (6 * a + k)) (by omega)]
        refine G_steps 3 (S1 := (47, [some (Sum.inr (Sum.inl (20, 0))), some (Sum.inl (nI a)), some (Sum.inl (nI k)), some (Sum.inl (nI (6 * a + k)))], [Sum.inl (nI (6 * a + k)), Sum.inr (Sum.inl (24, 0))], (v, m_u3 (d_ag u a k) 24 0 (6 * a + k) (((d_ag u a k) 24 0 (6 * a + k)) + 1), c))) rfl rfl ?_
        refine G_step (S1 := (48, [some (Sum.inr (Sum.inl (20, 0))), some (Sum.inl (nI a)), some (Sum.inl (nI k)), some (Sum.inl (nI (6 * a + k)))], [Sum.inl ((m_u3 (d_ag u a k) 24 0 (6 * a + k) (((d_ag u a k) 24 0 (6 * a + k)) + 1)) 24 0 (ix (nI (6 * a + k))))], (v, m_u3 (d_ag u a k) 24 0 (6 * a + k) (((d_ag u a k) 24 0 (6 * a + k)) + 1), c))) rfl (ib_nI (j := (6 * a + k)) (len := 36) (by omega) (by omega)) ?_
        rw [ix_nI (j := (6 * a + k)) (by omega)]
        refine G_top u3_s ?_
        refine G_steps 2 (S1 := (if ¬ ((d_ag u a k) 24 0 (6 * a + k)) + 1 = 3 then 79 else 52, [some (Sum.inr (Sum.inl (20, 0))), some (Sum.inl (nI a)), some (Sum.inl (nI k)), some (Sum.inl (nI (6 * a + k)))], [], (v, m_u3 (d_ag u a k) 24 0 (6 * a + k) (((d_ag u a k) 24 0 (6 * a + k)) + 1), c))) rfl rfl ?_
        refine G_ifn (fun h3 => ?_) (fun h3 => ?_)
        · skip
          refine G_steps 2 (S1 := (2, [some (Sum.inr (Sum.inl (20, 0))), some (Sum.inl (nI a)), some (Sum.inl ((nI k) + 1)), some (Sum.inl (nI (6 * a + k)))], [], (v, m_u3 (d_ag u a k) 24 0 (6 * a + k) (((d_ag u a k) 24 0 (6 * a + k)) + 1), c))) rfl rfl ?_
          exact G_is (by simp only [d_ag, d_ag1, nI_succ, if_neg h1, if_pos h2, if_neg h3]) (K (some (Sum.inl (nI (6 * a + k)))))
        · skip
          refine G_steps 4 (S1 := (58, [some (Sum.inr (Sum.inl (20, 0))), some (Sum.inl (nI a)), some (Sum.inl (nI k)), some (Sum.inl (nI (6 * a + k)))], [Sum.inl 0, Sum.inl (nI (6 * a + k)), Sum.inr (Sum.inl (24, 0))], (v, m_u3 (d_ag u a k) 24 0 (6 * a + k) (((d_ag u a k) 24 0 (6 * a + k)) + 1), c))) rfl rfl ?_
          refine G_step (S1 := (59, [some (Sum.inr (Sum.inl (20, 0))), some (Sum.inl (nI a)), some (Sum.inl (nI k)), some (Sum.inl (nI (6 * a + k)))], [], (v, m_u3 (m_u3 (d_ag u a k) 24 0 (6 * a + k) (((d_ag u a k) 24 0 (6 * a + k)) + 1)) 24 0 (ix (nI (6 * a + k))) 0, c))) rfl (ib_nI (j := (6 * a + k)) (len := 36) (by omega) (by omega)) ?_
          rw [ix_nI (j := (6 * a + k)) (by omega)]
          refine G_steps 4 (S1 := (65, [some (Sum.inr (Sum.inl (20, 0))), some (Sum.inl (nI a)), some (Sum.inl (nI k)), some (Sum.inl (nI (6 * a + k)))], [Sum.inl 2, Sum.inl (nI (6 * a + k)), Sum.inr (Sum.inl (22, 0))], (v, m_u3 (m_u3 (d_ag u a k) 24 0 (6 * a + k) (((d_ag u a k) 24 0 (6 * a + k)) + 1)) 24 0 (6 * a + k) 0, c))) rfl rfl ?_
          refine G_step (S1 := (66, [some (Sum.inr (Sum.inl (20, 0))), some (Sum.inl (nI a)), some (Sum.inl (nI k)), some (Sum.inl (nI (6 * a + k)))], [], (v, m_u3 (m_u3 (m_u3 (d_ag u a k) 24 0 (6 * a + k) (((d_ag u a k) 24 0 (6 * a + k)) + 1)) 24 0 (6 * a + k) 0) 22 0 (ix (nI (6 * a + k))) 2, c))) rfl (ib_nI (j := (6 * a + k)) (len := 36) (by omega) (by omega)) ?_
          rw [ix_nI (j := (6 * a + k)) (by omega)]
          refine G_steps 7 (S1 := (75, [some (Sum.inr (Sum.inl (20, 0))), some (Sum.inl (nI a)), some (Sum.inl (nI k)), some (Sum.inl (nI (6 * a + k)))], [Sum.inl (nI (6 * a + k)), Sum.inr (Sum.inl (23, 0)), Sum.inl 2, Sum.inl (nI k), Sum.inl (nI a), Sum.inr (Sum.inl (20, 0))], (v, m_u3 (m_u3 (m_u3 (d_ag u a k) 24 0 (6 * a + k) (((d_ag u a k) 24 0 (6 * a + k)) + 1)) 24 0 (6 * a + k) 0) 22 0 (6 * a + k) 2, c))) rfl rfl ?_
          refine G_step (S1 := (76, [some (Sum.inr (Sum.inl (20, 0))), some (Sum.inl (nI a)), some (Sum.inl (nI k)), some (Sum.inl (nI (6 * a + k)))], [Sum.inl ((d_ag u a k) 23 0 (ix (nI (6 * a + k)))), Sum.inl 2, Sum.inl (nI k), Sum.inl (nI a), Sum.inr (Sum.inl (20, 0))], (v, m_u3 (m_u3 (m_u3 (d_ag u a k) 24 0 (6 * a + k) (((d_ag u a k) 24 0 (6 * a + k)) + 1)) 24 0 (6 * a + k) 0) 22 0 (6 * a + k) 2, c))) rfl (ib_nI (j := (6 * a + k)) (len := 36) (by omega) (by omega)) ?_
          rw [ix_nI (j := (6 * a + k)) (by omega)]
          refine G_call (y := none) (M1 := (v, d_ann (m_u3 (m_u3 (m_u3 (d_ag u a k) 24 0 (6 * a + k) (((d_ag u a k) 24 0 (6 * a + k)) + 1)) 24 0 (6 * a + k) 0) 22 0 (6 * a + k) 2) a k 2 ((d_ag u a k) 23 0 (6 * a + k)), c)) rfl rfl (e_m_announce _ hn (by omega) (by omega)) ?_
          refine G_is (S' := (79, [some (Sum.inr (Sum.inl (20, 0))), some (Sum.inl (nI a)), some (Sum.inl (nI k)), some (Sum.inl (nI (6 * a + k)))], [], (v, d_ann (m_u3 (m_u3 (m_u3 (d_ag u a k) 24 0 (6 * a + k) (((d_ag u a k) 24 0 (6 * a + k)) + 1)) 24 0 (6 * a + k) 0) 22 0 (6 * a + k) 2) a k 2 ((d_ag u a k) 23 0 (6 * a + k)), c))) rfl ?_
          refine G_steps 2 (S1 := (2, [some (Sum.inr (Sum.inl (20, 0))), some (Sum.inl (nI a)), some (Sum.inl ((nI k) + 1)), some (Sum.inl (nI (6 * a + k)))], [], (v, d_ann (m_u3 (m_u3 (m_u3 (d_ag u a k) 24 0 (6 * a + k) (((d_ag u a k) 24 0 (6 * a + k)) + 1)) 24 0 (6 * a + k) 0) 22 0 (6 * a + k) 2) a k 2 ((d_ag u a k) 23 0 (6 * a + k)), c))) rfl rfl ?_
          exact G_is (by simp only [d_ag, d_ag1, nI_succ, if_neg h1, if_pos h2, if_pos h3]) (K (some (Sum.inl (nI (6 * a + k)))))
  · skip
    refine G_steps 3 (S1 := (7, [some (Sum.inr (Sum.inl (20, 0))), some (Sum.inl (nI a)), some (Sum.inl (nI n)), o], [Sum.inl ((d_ag u a n) 20 0 0), Sum.inl (nI n)], (v, d_ag u a n, c))) rfl rfl ?_
    refine G_top ((congrFun (congrFun (dag_k (k := 20) rfl) 0) 0).trans hf) ?_
    refine G_steps 1 (S1 := (if nI n ≤ nI n then 85 else 10, [some (Sum.inr (Sum.inl (20, 0))), some (Sum.inl (nI a)), some (Sum.inl (nI n)), o], [], (v, d_ag u a n, c))) rfl rfl ?_
    refine G_iT ((nI_le' (by omega) (by omega)).mpr (Nat.le_refl _)) ?_
    exact G_fin rfl rfl rfl
set_option maxRecDepth 100000 in
theorem e_m_doubt0 (d : Nat) {n L : Nat} {xs : Nat → Int32} {v u : mV} {c : Nat} {a : Nat} (hn : n ≤ 6) (ha : a < n) (hto : u 31 0 a = oI none) : E_v false n L xs (d + 2) 66 [Sum.inr (Sum.inl (20, 0)), Sum.inl (nI a)] (v, u, c) none (v, d_db u a none, c) := by
  refine E_mk mc_66 (by decide) ?_
  refine G_steps 3 (S1 := (5, [some (Sum.inr (Sum.inl (20, 0))), some (Sum.inl (nI a)), none], [Sum.inl (nI a), Sum.inr (Sum.inl (31, 0))], (v, u, c))) rfl rfl ?_
  refine G_step (S1 := (6, [some (Sum.inr (Sum.inl (20, 0))), some (Sum.inl (nI a)), none], [Sum.inl (u 31 0 (ix (nI a)))], (v, u, c))) rfl (ib_nI (j := a) (len := 6) (by omega) (by omega)) ?_
  rw [ix_nI (j := a) (by omega)]
  refine G_top hto ?_
  refine G_steps 3 (S1 := (if (-1) < 0 then 76 else 11, [some (Sum.inr (Sum.inl (20, 0))), some (Sum.inl (nI a)), some (Sum.inl (-1))], [], (v, u, c))) rfl rfl ?_
  refine G_iT (by decide) ?_
  exact G_fin rfl rfl rfl
set_option maxRecDepth 100000 in
theorem e_m_doubt1 (d : Nat) {n L : Nat} {xs : Nat → Int32} {v u : mV} {c : Nat} {a t : Nat} (hn : n ≤ 6) (ha : a < n) (ht : t < n) (hto : u 31 0 a = oI (some t)) : E_v false n L xs (d + 2) 66 [Sum.inr (Sum.inl (20, 0)), Sum.inl (nI a)] (v, u, c) none (v, d_db u a (some t), c) := by
  refine E_mk mc_66 (by decide) ?_
  refine G_steps 3 (S1 := (5, [some (Sum.inr (Sum.inl (20, 0))), some (Sum.inl (nI a)), none], [Sum.inl (nI a), Sum.inr (Sum.inl (31, 0))], (v, u, c))) rfl rfl ?_
  refine G_step (S1 := (6, [some (Sum.inr (Sum.inl (20, 0))), some (Sum.inl (nI a)), none], [Sum.inl (u 31 0 (ix (nI a)))], (v, u, c))) rfl (ib_nI (j := a) (len := 6) (by omega) (by omega)) ?_
  rw [ix_nI (j := a) (by omega)]
  refine G_top hto ?_
  refine G_steps 3 (S1 := (if nI t < 0 then 76 else 11, [some (Sum.inr (Sum.inl (20, 0))), some (Sum.inl (nI a)), some (Sum.inl (nI t))], [], (v, u, c))) rfl rfl ?_
  refine G_iF (nI_pos (by omega)) ?_
  refine G_steps 3 (S1 := (16, [some (Sum.inr (Sum.inl (20, 0))), some (Sum.inl (nI a)), some (Sum.inl (nI t))], [Sum.inl (nI a), Sum.inr (Sum.inl (32, 0))], (v, u, c))) rfl rfl ?_
  refine G_step (S1 := (17, [some (Sum.inr (Sum.inl (20, 0))), some (Sum.inl (nI a)), some (Sum.inl (nI t))], [Sum.inl (u 32 0 (ix (nI a)))], (v, u, c))) rfl (ib_nI (j := a) (len := 6) (by omega) (by omega)) ?_
  rw [ix_nI (j := a) (by omega)]
  refine G_steps 1 (S1 := (if ¬ u 32 0 a = 0 then 76 else 20, [some (Sum.inr (Sum.inl (20, 0))), some (Sum.inl (nI a)), some (Sum.inl (nI t))], [], (v, u, c))) rfl rfl ?_
  refine G_ifn (fun h1 => ?_) (fun h1 => ?_)
  · skip
    exact G_fin rfl rfl (M_2 (by simp only [d_db, if_neg h1]))
  · skip
    refine G_steps 5 (S1 := (28, [some (Sum.inr (Sum.inl (20, 0))), some (Sum.inl (nI a)), some (Sum.inl (nI t))], [Sum.inl (6 * (nI a)), Sum.inr (Sum.inl (22, 0))], (v, u, c))) rfl rfl ?_
    refine G_top (nI_mul 6 a) ?_
    refine G_steps 2 (S1 := (30, [some (Sum.inr (Sum.inl (20, 0))), some (Sum.inl (nI a)), some (Sum.inl (nI t))], [Sum.inl ((nI (6 * a)) + (nI t)), Sum.inr (Sum.inl (22, 0))], (v, u, c))) rfl rfl ?_
    refine G_top (nI_ad (6 * a) t) ?_
    refine G_step (S1 := (31, [some (Sum.inr (Sum.inl (20, 0))), some (Sum.inl (nI a)), some (Sum.inl (nI t))], [Sum.inl (u 22 0 (ix (nI (6 * a + t))))], (v, u, c))) rfl (ib_nI (j := (6 * a + t)) (len := 36) (by omega) (by omega)) ?_
    rw [ix_nI (j := (6 * a + t)) (by omega)]
    refine G_steps 1 (S1 := (if ¬ u 22 0 (6 * a + t) = 0 then 76 else 34, [some (Sum.inr (Sum.inl (20, 0))), some (Sum.inl (nI a)), some (Sum.inl (nI t))], [], (v, u, c))) rfl rfl ?_
    refine G_ifn (fun h2 => ?_) (fun h2 => ?_)
    · skip
      exact G_fin rfl rfl (M_2 (by simp only [d_db, if_pos h1, if_neg h2]))
    · skip
      refine G_steps 5 (S1 := (42, [some (Sum.inr (Sum.inl (20, 0))), some (Sum.inl (nI a)), some (Sum.inl (nI t))], [Sum.inl (6 * (nI a)), Sum.inr (Sum.inl (22, 0))], (v, u, c))) rfl rfl ?_
      refine G_top (nI_mul 6 a) ?_
      refine G_steps 2 (S1 := (44, [some (Sum.inr (Sum.inl (20, 0))), some (Sum.inl (nI a)), some (Sum.inl (nI t))], [Sum.inl ((nI (6 * a)) + (nI t)), Sum.inr (Sum.inl (22, 0))], (v, u, c))) rfl rfl ?_
      refine G_top (nI_ad (6 * a) t) ?_
      refine G_steps 1 (S1 := (45, [some (Sum.inr (Sum.inl (20, 0))), some (Sum.inl (nI a)), some (Sum.inl (nI t))], [Sum.inl 1, Sum.inl (nI (6 * a + t)), Sum.inr (Sum.inl (22, 0))], (v, u, c))) rfl rfl ?_
      refine G_step (S1 := (46, [some (Sum.inr (Sum.inl (20, 0))), some (Sum.inl (nI a)), some (Sum.inl (nI t))], [], (v, m_u3 u 22 0 (ix (nI (6 * a + t))) 1, c))) rfl (ib_nI (j := (6 * a + t)) (len := 36) (by omega) (by omega)) ?_
      rw [ix_nI (j := (6 * a + t)) (by omega)]
      refine G_steps 5 (S1 := (54, [some (Sum.inr (Sum.inl (20, 0))), some (Sum.inl (nI a)), some (Sum.inl (nI t))], [Sum.inl (6 * (nI a)), Sum.inr (Sum.inl (24, 0))], (v, m_u3 u 22 0 (6 * a + t) 1, c))) rfl rfl ?_
      refine G_top (nI_mul 6 a) ?_
      refine G_steps 2 (S1 := (56, [some (Sum.inr (Sum.inl (20, 0))), some (Sum.inl (nI a)), some (Sum.inl (nI t))], [Sum.inl ((nI (6 * a)) + (nI t)), Sum.inr (Sum.inl (24, 0))], (v, m_u3 u 22 0 (6 * a + t) 1, c))) rfl rfl ?_
      refine G_top (nI_ad (6 * a) t) ?_
      refine G_steps 1 (S1 := (57, [some (Sum.inr (Sum.inl (20, 0))), some (Sum.inl (nI a)), some (Sum.inl (nI t))], [Sum.inl 0, Sum.inl (nI (6 * a + t)), Sum.inr (Sum.inl (24, 0))], (v, m_u3 u 22 0 (6 * a + t) 1, c))) rfl rfl ?_
      refine G_step (S1 := (58, [some (Sum.inr (Sum.inl (20, 0))), some (Sum.inl (nI a)), some (Sum.inl (nI t))], [], (v, m_u3 (m_u3 u 22 0 (6 * a + t) 1) 24 0 (ix (nI (6 * a + t))) 0, c))) rfl (ib_nI (j := (6 * a + t)) (len := 36) (by omega) (by omega)) ?_
      rw [ix_nI (j := (6 * a + t)) (by omega)]
      refine G_steps 9 (S1 := (70, [some (Sum.inr (Sum.inl (20, 0))), some (Sum.inl (nI a)), some (Sum.inl (nI t))], [Sum.inl (6 * (nI a)), Sum.inr (Sum.inl (23, 0)), Sum.inl 1, Sum.inl (nI t), Sum.inl (nI a), Sum.inr (Sum.inl (20, 0))], (v, m_u3 (m_u3 u 22 0 (6 * a + t) 1) 24 0 (6 * a + t) 0, c))) rfl rfl ?_
      refine G_top (nI_mul 6 a) ?_
      refine G_steps 2 (S1 := (72, [some (Sum.inr (Sum.inl (20, 0))), some (Sum.inl (nI a)), some (Sum.inl (nI t))], [Sum.inl ((nI (6 * a)) + (nI t)), Sum.inr (Sum.inl (23, 0)), Sum.inl 1, Sum.inl (nI t), Sum.inl (nI a), Sum.inr (Sum.inl (20, 0))], (v, m_u3 (m_u3 u 22 0 (6 * a + t) 1) 24 0 (6 * a + t) 0, c))) rfl rfl ?_
      refine G_top (nI_ad (6 * a) t) ?_
      refine G_step (S1 := (73, [some (Sum.inr (Sum.inl (20, 0))), some (Sum.inl (nI a)), some (Sum.inl (nI t))], [Sum.inl (u 23 0 (ix (nI (6 * a + t)))), Sum.inl 1, Sum.inl (nI t), Sum.inl (nI a), Sum.inr (Sum.inl (20, 0))], (v, m_u3 (m_u3 u 22 0 (6 * a + t) 1) 24 0 (6 * a + t) 0, c))) rfl (ib_nI (j := (6 * a + t)) (len := 36) (by omega) (by omega)) ?_
      rw [ix_nI (j := (6 * a + t)) (by omega)]
      refine G_call (y := none) (M1 := (v, d_ann (m_u3 (m_u3 u 22 0 (6 * a + t) 1) 24 0 (6 * a + t) 0) a t 1 (u 23 0 (6 * a + t)), c)) rfl rfl (e_m_announce _ hn (by omega) (by omega)) ?_
      refine G_is (S' := (76, [some (Sum.inr (Sum.inl (20, 0))), some (Sum.inl (nI a)), some (Sum.inl (nI t))], [], (v, d_ann (m_u3 (m_u3 u 22 0 (6 * a + t) 1) 24 0 (6 * a + t) 0) a t 1 (u 23 0 (6 * a + t)), c))) rfl ?_
      exact G_fin rfl rfl (M_2 (by simp only [d_db, if_pos h1, if_pos h2]))
theorem e_m_doubt (d : Nat) {n L : Nat} {xs : Nat → Int32} {v u : mV} {c : Nat} {a : Nat} {o : Option Nat} (hn : n ≤ 6) (ha : a < n) (hto : u 31 0 a = oI o) (ho : ∀ t, o = some t → t < n) : E_v false n L xs (d + 2) 66 [Sum.inr (Sum.inl (20, 0)), Sum.inl (nI a)] (v, u, c) none (v, d_db u a o, c) := by
  cases o with
  | none => exact e_m_doubt0 d hn ha hto
  | some t => exact e_m_doubt1 d hn ha (ho t rfl) hto
set_option maxRecDepth 100000 in
theorem e_m_isNode (d : Nat) {n L : Nat} {xs : Nat → Int32} {v u : mV} {c : Nat} {k : Int32} (hf : F_m n u) : E_v false n L xs (d + 1) 64 [Sum.inr (Sum.inl (20, 0)), Sum.inl k] (v, u, c) (some (Sum.inl (c_in n k))) (v, u, c) := by
  refine E_mk mc_64 (by decide) ?_
  refine G_steps 2 (S1 := (if k < 0 then 16 else 4, [some (Sum.inr (Sum.inl (20, 0))), some (Sum.inl k)], [], (v, u, c))) rfl rfl ?_
  refine G_if (fun h1 => ?_) (fun h1 => ?_)
  · skip
    refine G_steps 1 (S1 := (17, [some (Sum.inr (Sum.inl (20, 0))), some (Sum.inl k)], [Sum.inl 0], (v, u, c))) rfl rfl ?_
    exact G_fin rfl (by simp only [c_in, if_pos h1]) rfl
  · skip
    refine G_steps 3 (S1 := (9, [some (Sum.inr (Sum.inl (20, 0))), some (Sum.inl k)], [Sum.inl (u 20 0 0), Sum.inl k], (v, u, c))) rfl rfl ?_
    refine G_top hf ?_
    refine G_steps 1 (S1 := (if nI n ≤ k then 16 else 12, [some (Sum.inr (Sum.inl (20, 0))), some (Sum.inl k)], [], (v, u, c))) rfl rfl ?_
    refine G_if (fun h2 => ?_) (fun h2 => ?_)
    · skip
      refine G_steps 1 (S1 := (17, [some (Sum.inr (Sum.inl (20, 0))), some (Sum.inl k)], [Sum.inl 0], (v, u, c))) rfl rfl ?_
      exact G_fin rfl (by simp only [c_in, if_neg h1, if_pos h2]) rfl
    · skip
      refine G_steps 2 (S1 := (17, [some (Sum.inr (Sum.inl (20, 0))), some (Sum.inl k)], [Sum.inl 1], (v, u, c))) rfl rfl ?_
      exact G_fin rfl (by simp only [c_in, if_neg h1, if_neg h2]) rfl
set_option maxRecDepth 100000 in
theorem e_m_works0 (d : Nat) {n L : Nat} {xs : Nat → Int32} {v u : mV} {c : Nat} {x : Int32} (hn : n ≤ 6) (hf : F_m n u) (hx : c_in n x = 0) : E_v false n L xs (d + 2) 63 [Sum.inr (Sum.inl (20, 0)), Sum.inl x] (v, u, c) (some (Sum.inl 0)) (v, u, c) := by
  refine E_mk mc_63 (by decide) ?_
  refine G_steps 2 (S1 := (2, [some (Sum.inr (Sum.inl (20, 0))), some (Sum.inl x)], [Sum.inl x, Sum.inr (Sum.inl (20, 0))], (v, u, c))) rfl rfl ?_
  refine G_call (y := some (Sum.inl (c_in n x))) (M1 := (v, u, c)) rfl rfl (e_m_isNode _ hf) ?_
  refine G_is (S' := (5, [some (Sum.inr (Sum.inl (20, 0))), some (Sum.inl x)], [Sum.inl (c_in n x)], (v, u, c))) rfl ?_
  refine G_top hx ?_
  refine G_steps 1 (S1 := (if 0 = 0 then 21 else 8, [some (Sum.inr (Sum.inl (20, 0))), some (Sum.inl x)], [], (v, u, c))) rfl rfl ?_
  refine G_iT rfl ?_
  refine G_steps 1 (S1 := (22, [some (Sum.inr (Sum.inl (20, 0))), some (Sum.inl x)], [Sum.inl 0], (v, u, c))) rfl rfl ?_
  exact G_fin rfl rfl rfl
set_option maxRecDepth 100000 in
theorem e_m_works1 (d : Nat) {n L : Nat} {xs : Nat → Int32} {v u : mV} {c : Nat} {a : Nat} (hn : n ≤ 6) (hf : F_m n u) (ha : a < n) : E_v false n L xs (d + 2) 63 [Sum.inr (Sum.inl (20, 0)), Sum.inl (nI a)] (v, u, c) (some (Sum.inl (d_wk u a))) (v, u, c) := by
  refine E_mk mc_63 (by decide) ?_
  refine G_steps 2 (S1 := (2, [some (Sum.inr (Sum.inl (20, 0))), some (Sum.inl (nI a))], [Sum.inl (nI a), Sum.inr (Sum.inl (20, 0))], (v, u, c))) rfl rfl ?_
  refine G_call (y := some (Sum.inl (c_in n (nI a)))) (M1 := (v, u, c)) rfl rfl (e_m_isNode _ hf) ?_
  refine G_is (S' := (5, [some (Sum.inr (Sum.inl (20, 0))), some (Sum.inl (nI a))], [Sum.inl (c_in n (nI a))], (v, u, c))) rfl ?_
  refine G_top (in_1 hn ha) ?_
  refine G_steps 1 (S1 := (if 1 = 0 then 21 else 8, [some (Sum.inr (Sum.inl (20, 0))), some (Sum.inl (nI a))], [], (v, u, c))) rfl rfl ?_
  refine G_iF (by decide) ?_
  refine G_steps 3 (S1 := (13, [some (Sum.inr (Sum.inl (20, 0))), some (Sum.inl (nI a))], [Sum.inl (nI a), Sum.inr (Sum.inl (21, 0))], (v, u, c))) rfl rfl ?_
  refine G_step (S1 := (14, [some (Sum.inr (Sum.inl (20, 0))), some (Sum.inl (nI a))], [Sum.inl (u 21 0 (ix (nI a)))], (v, u, c))) rfl (ib_nI (j := a) (len := 6) (by omega) (by omega)) ?_
  rw [ix_nI (j := a) (by omega)]
  refine G_steps 1 (S1 := (if ¬ u 21 0 a = 0 then 21 else 17, [some (Sum.inr (Sum.inl (20, 0))), some (Sum.inl (nI a))], [], (v, u, c))) rfl rfl ?_
  refine G_ifn (fun h1 => ?_) (fun h1 => ?_)
  · skip
    refine G_steps 1 (S1 := (22, [some (Sum.inr (Sum.inl (20, 0))), some (Sum.inl (nI a))], [Sum.inl 0], (v, u, c))) rfl rfl ?_
    exact G_fin rfl (by simp only [d_wk, if_neg h1]) rfl
  · skip
    refine G_steps 2 (S1 := (22, [some (Sum.inr (Sum.inl (20, 0))), some (Sum.inl (nI a))], [Sum.inl 1], (v, u, c))) rfl rfl ?_
    exact G_fin rfl (by simp only [d_wk, if_pos h1]) rfl
set_option maxRecDepth 100000 in
theorem e_m_isUp0 (d : Nat) {n L : Nat} {xs : Nat → Int32} {v u : mV} {c : Nat} {x : Int32} (hn : n ≤ 6) (hf : F_m n u) (hx : c_in n x = 0) : E_v false n L xs (d + 3) 72 [Sum.inr (Sum.inl (20, 0)), Sum.inl x] (v, u, c) (some (Sum.inl 0)) (v, u, c) := by
  refine E_mk mc_72 (by decide) ?_
  refine G_steps 2 (S1 := (2, [some (Sum.inr (Sum.inl (20, 0))), some (Sum.inl x)], [Sum.inl x, Sum.inr (Sum.inl (20, 0))], (v, u, c))) rfl rfl ?_
  refine G_call (y := some (Sum.inl 0)) (M1 := (v, u, c)) rfl rfl (e_m_works0 _ hn hf hx) ?_
  refine G_is (S' := (5, [some (Sum.inr (Sum.inl (20, 0))), some (Sum.inl x)], [Sum.inl 0], (v, u, c))) rfl ?_
  exact G_fin rfl rfl rfl
theorem b01_wk {u : mV} {a : Nat} : b_01 (d_wk u a) = true := by
  unfold d_wk
  split <;> rfl
set_option maxRecDepth 100000 in
theorem e_m_isUp1 (d : Nat) {n L : Nat} {xs : Nat → Int32} {v u : mV} {c : Nat} {a : Nat} (hn : n ≤ 6) (hf : F_m n u) (ha : a < n) : E_v false n L xs (d + 3) 72 [Sum.inr (Sum.inl (20, 0)), Sum.inl (nI a)] (v, u, c) (some (Sum.inl (d_wk u a))) (v, u, c) := by
  refine E_mk mc_72 (by decide) ?_
  refine G_steps 2 (S1 := (2, [some (Sum.inr (Sum.inl (20, 0))), some (Sum.inl (nI a))], [Sum.inl (nI a), Sum.inr (Sum.inl (20, 0))], (v, u, c))) rfl rfl ?_
  refine G_call (y := some (Sum.inl (d_wk u a))) (M1 := (v, u, c)) rfl rfl (e_m_works1 _ hn hf ha) ?_
  refine G_is (S' := (5, [some (Sum.inr (Sum.inl (20, 0))), some (Sum.inl (nI a))], [Sum.inl (d_wk u a)], (v, u, c))) rfl ?_
  exact G_fin (by show some (Nat.beq 1 0 || b_01 _, _) = _; rw [b01_wk]; rfl) rfl rfl
set_option maxRecDepth 100000 in
theorem e_m_stop0 (d : Nat) {n L : Nat} {xs : Nat → Int32} {v u : mV} {c : Nat} {x : Int32} (hn : n ≤ 6) (hf : F_m n u) (hx : c_in n x = 0) : E_v false n L xs (d + 3) 71 [Sum.inr (Sum.inl (20, 0)), Sum.inl x] (v, u, c) (some (Sum.inl 0)) (v, u, c) := by
  refine E_mk mc_71 (by decide) ?_
  refine G_steps 2 (S1 := (2, [some (Sum.inr (Sum.inl (20, 0))), some (Sum.inl x)], [Sum.inl x, Sum.inr (Sum.inl (20, 0))], (v, u, c))) rfl rfl ?_
  refine G_call (y := some (Sum.inl 0)) (M1 := (v, u, c)) rfl rfl (e_m_works0 _ hn hf hx) ?_
  refine G_is (S' := (5, [some (Sum.inr (Sum.inl (20, 0))), some (Sum.inl x)], [Sum.inl 0], (v, u, c))) rfl ?_
  refine G_steps 1 (S1 := (if ¬ 0 = 0 then 10 else 8, [some (Sum.inr (Sum.inl (20, 0))), some (Sum.inl x)], [], (v, u, c))) rfl rfl ?_
  refine G_nF rfl ?_
  refine G_steps 1 (S1 := (9, [some (Sum.inr (Sum.inl (20, 0))), some (Sum.inl x)], [Sum.inl 0], (v, u, c))) rfl rfl ?_
  exact G_fin rfl rfl rfl
set_option maxRecDepth 100000 in
theorem e_m_stop1 (d : Nat) {n L : Nat} {xs : Nat → Int32} {v u : mV} {c : Nat} {a : Nat} (hn : n ≤ 6) (hf : F_m n u) (ha : a < n) (hu : ¬ u 21 0 a = 0) : E_v false n L xs (d + 3) 71 [Sum.inr (Sum.inl (20, 0)), Sum.inl (nI a)] (v, u, c) (some (Sum.inl 0)) (v, u, c) := by
  refine E_mk mc_71 (by decide) ?_
  refine G_steps 2 (S1 := (2, [some (Sum.inr (Sum.inl (20, 0))), some (Sum.inl (nI a))], [Sum.inl (nI a), Sum.inr (Sum.inl (20, 0))], (v, u, c))) rfl rfl ?_
  refine G_call (y := some (Sum.inl (d_wk u a))) (M1 := (v, u, c)) rfl rfl (e_m_works1 _ hn hf ha) ?_
  refine G_is (S' := (5, [some (Sum.inr (Sum.inl (20, 0))), some (Sum.inl (nI a))], [Sum.inl (d_wk u a)], (v, u, c))) rfl ?_
  refine G_top (if_neg hu) ?_
  refine G_steps 1 (S1 := (if ¬ 0 = 0 then 10 else 8, [some (Sum.inr (Sum.inl (20, 0))), some (Sum.inl (nI a))], [], (v, u, c))) rfl rfl ?_
  refine G_nF rfl ?_
  refine G_steps 1 (S1 := (9, [some (Sum.inr (Sum.inl (20, 0))), some (Sum.inl (nI a))], [Sum.inl 0], (v, u, c))) rfl rfl ?_
  exact G_fin rfl rfl rfl
set_option maxRecDepth 100000 in
theorem e_m_stop2 (d : Nat) {n L : Nat} {xs : Nat → Int32} {v u : mV} {c : Nat} {a : Nat} (hn : n ≤ 6) (hf : F_m n u) (ha : a < n) (hu : u 21 0 a = 0) : E_v false n L xs (d + 3) 71 [Sum.inr (Sum.inl (20, 0)), Sum.inl (nI a)] (v, u, c) (some (Sum.inl 1)) (v, m_u3 u 21 0 a 1, c) := by
  refine E_mk mc_71 (by decide) ?_
  refine G_steps 2 (S1 := (2, [some (Sum.inr (Sum.inl (20, 0))), some (Sum.inl (nI a))], [Sum.inl (nI a), Sum.inr (Sum.inl (20, 0))], (v, u, c))) rfl rfl ?_
  refine G_call (y := some (Sum.inl (d_wk u a))) (M1 := (v, u, c)) rfl rfl (e_m_works1 _ hn hf ha) ?_
  refine G_is (S' := (5, [some (Sum.inr (Sum.inl (20, 0))), some (Sum.inl (nI a))], [Sum.inl (d_wk u a)], (v, u, c))) rfl ?_
  refine G_top (if_pos hu) ?_
  refine G_steps 1 (S1 := (if ¬ 1 = 0 then 10 else 8, [some (Sum.inr (Sum.inl (20, 0))), some (Sum.inl (nI a))], [], (v, u, c))) rfl rfl ?_
  refine G_nT (by decide) ?_
  refine G_steps 4 (S1 := (16, [some (Sum.inr (Sum.inl (20, 0))), some (Sum.inl (nI a))], [Sum.inl 1, Sum.inl (nI a), Sum.inr (Sum.inl (21, 0))], (v, u, c))) rfl rfl ?_
  refine G_step (S1 := (17, [some (Sum.inr (Sum.inl (20, 0))), some (Sum.inl (nI a))], [], (v, m_u3 u 21 0 (ix (nI a)) 1, c))) rfl (ib_b (ib_nI (j := a) (len := 6) (by omega) (by omega)) rfl) ?_
  rw [ix_nI (j := a) (by omega)]
  refine G_steps 1 (S1 := (18, [some (Sum.inr (Sum.inl (20, 0))), some (Sum.inl (nI a))], [Sum.inl 1], (v, m_u3 u 21 0 a 1, c))) rfl rfl ?_
  exact G_fin rfl rfl rfl
set_option maxRecDepth 100000 in
theorem e_m_waits0 (d : Nat) {n L : Nat} {xs : Nat → Int32} {v u : mV} {c : Nat} {x : Int32} (hn : n ≤ 6) (hf : F_m n u) (hx : c_in n x = 0) : E_v false n L xs (d + 3) 68 [Sum.inr (Sum.inl (20, 0)), Sum.inl x] (v, u, c) (some (Sum.inl 0)) (v, u, c) := by
  refine E_mk mc_68 (by decide) ?_
  refine G_steps 2 (S1 := (2, [some (Sum.inr (Sum.inl (20, 0))), some (Sum.inl x)], [Sum.inl x, Sum.inr (Sum.inl (20, 0))], (v, u, c))) rfl rfl ?_
  refine G_call (y := some (Sum.inl 0)) (M1 := (v, u, c)) rfl rfl (e_m_works0 _ hn hf hx) ?_
  refine G_is (S' := (5, [some (Sum.inr (Sum.inl (20, 0))), some (Sum.inl x)], [Sum.inl 0], (v, u, c))) rfl ?_
  refine G_steps 1 (S1 := (if 0 = 0 then 30 else 8, [some (Sum.inr (Sum.inl (20, 0))), some (Sum.inl x)], [], (v, u, c))) rfl rfl ?_
  refine G_iT rfl ?_
  refine G_steps 1 (S1 := (31, [some (Sum.inr (Sum.inl (20, 0))), some (Sum.inl x)], [Sum.inl 0], (v, u, c))) rfl rfl ?_
  exact G_fin rfl rfl rfl
set_option maxRecDepth 100000 in
theorem e_m_waits1 (d : Nat) {n L : Nat} {xs : Nat → Int32} {v u : mV} {c : Nat} {a : Nat} (hn : n ≤ 6) (hf : F_m n u) (ha : a < n) (hu : ¬ u 21 0 a = 0) : E_v false n L xs (d + 3) 68 [Sum.inr (Sum.inl (20, 0)), Sum.inl (nI a)] (v, u, c) (some (Sum.inl (d_wt u a))) (v, u, c) := by
  refine E_mk mc_68 (by decide) ?_
  refine G_steps 2 (S1 := (2, [some (Sum.inr (Sum.inl (20, 0))), some (Sum.inl (nI a))], [Sum.inl (nI a), Sum.inr (Sum.inl (20, 0))], (v, u, c))) rfl rfl ?_
  refine G_call (y := some (Sum.inl (d_wk u a))) (M1 := (v, u, c)) rfl rfl (e_m_works1 _ hn hf ha) ?_
  refine G_is (S' := (5, [some (Sum.inr (Sum.inl (20, 0))), some (Sum.inl (nI a))], [Sum.inl (d_wk u a)], (v, u, c))) rfl ?_
  refine G_top (if_neg hu) ?_
  refine G_steps 1 (S1 := (if 0 = 0 then 30 else 8, [some (Sum.inr (Sum.inl (20, 0))), some (Sum.inl (nI a))], [], (v, u, c))) rfl rfl ?_
  refine G_iT rfl ?_
  refine G_steps 1 (S1 := (31, [some (Sum.inr (Sum.inl (20, 0))), some (Sum.inl (nI a))], [Sum.inl 0], (v, u, c))) rfl rfl ?_
  exact G_fin rfl (by simp only [d_wt, if_neg hu]) rfl
set_option maxRecDepth 100000 in
theorem e_m_waits2 (d : Nat) {n L : Nat} {xs : Nat → Int32} {v u : mV} {c : Nat} {a : Nat} (hn : n ≤ 6) (hf : F_m n u) (ha : a < n) (hu : u 21 0 a = 0) : E_v false n L xs (d + 3) 68 [Sum.inr (Sum.inl (20, 0)), Sum.inl (nI a)] (v, u, c) (some (Sum.inl (d_wt u a))) (v, u, c) := by
  refine E_mk mc_68 (by decide) ?_
  refine G_steps 2 (S1 := (2, [some (Sum.inr (Sum.inl (20, 0))), some (Sum.inl (nI a))], [Sum.inl (nI a), Sum.inr (Sum.inl (20, 0))], (v, u, c))) rfl rfl ?_
  refine G_call (y := some (Sum.inl (d_wk u a))) (M1 := (v, u, c)) rfl rfl (e_m_works1 _ hn hf ha) ?_
  refine G_is (S' := (5, [some (Sum.inr (Sum.inl (20, 0))), some (Sum.inl (nI a))], [Sum.inl (d_wk u a)], (v, u, c))) rfl ?_
  refine G_top (if_pos hu) ?_
  refine G_steps 1 (S1 := (if 1 = 0 then 30 else 8, [some (Sum.inr (Sum.inl (20, 0))), some (Sum.inl (nI a))], [], (v, u, c))) rfl rfl ?_
  refine G_iF (by decide) ?_
  refine G_steps 3 (S1 := (13, [some (Sum.inr (Sum.inl (20, 0))), some (Sum.inl (nI a))], [Sum.inl (nI a), Sum.inr (Sum.inl (31, 0))], (v, u, c))) rfl rfl ?_
  refine G_step (S1 := (14, [some (Sum.inr (Sum.inl (20, 0))), some (Sum.inl (nI a))], [Sum.inl (u 31 0 (ix (nI a)))], (v, u, c))) rfl (ib_nI (j := a) (len := 6) (by omega) (by omega)) ?_
  rw [ix_nI (j := a) (by omega)]
  refine G_steps 1 (S1 := (if u 31 0 a < 0 then 30 else 17, [some (Sum.inr (Sum.inl (20, 0))), some (Sum.inl (nI a))], [], (v, u, c))) rfl rfl ?_
  refine G_if (fun h1 => ?_) (fun h1 => ?_)
  · skip
    refine G_steps 1 (S1 := (31, [some (Sum.inr (Sum.inl (20, 0))), some (Sum.inl (nI a))], [Sum.inl 0], (v, u, c))) rfl rfl ?_
    exact G_fin rfl (by simp only [d_wt, if_pos hu, if_pos h1]) rfl
  · skip
    refine G_steps 3 (S1 := (22, [some (Sum.inr (Sum.inl (20, 0))), some (Sum.inl (nI a))], [Sum.inl (nI a), Sum.inr (Sum.inl (32, 0))], (v, u, c))) rfl rfl ?_
    refine G_step (S1 := (23, [some (Sum.inr (Sum.inl (20, 0))), some (Sum.inl (nI a))], [Sum.inl (u 32 0 (ix (nI a)))], (v, u, c))) rfl (ib_nI (j := a) (len := 6) (by omega) (by omega)) ?_
    rw [ix_nI (j := a) (by omega)]
    refine G_steps 1 (S1 := (if ¬ u 32 0 a = 0 then 30 else 26, [some (Sum.inr (Sum.inl (20, 0))), some (Sum.inl (nI a))], [], (v, u, c))) rfl rfl ?_
    refine G_ifn (fun h2 => ?_) (fun h2 => ?_)
    · skip
      refine G_steps 1 (S1 := (31, [some (Sum.inr (Sum.inl (20, 0))), some (Sum.inl (nI a))], [Sum.inl 0], (v, u, c))) rfl rfl ?_
      exact G_fin rfl (by simp only [d_wt, if_pos hu, if_neg h1, if_neg h2]) rfl
    · skip
      refine G_steps 2 (S1 := (31, [some (Sum.inr (Sum.inl (20, 0))), some (Sum.inl (nI a))], [Sum.inl 1], (v, u, c))) rfl rfl ?_
      exact G_fin rfl (by simp only [d_wt, if_pos hu, if_neg h1, if_pos h2]) rfl
theorem e_m_waits (d : Nat) {n L : Nat} {xs : Nat → Int32} {v u : mV} {c : Nat} {a : Nat} (hn : n ≤ 6) (hf : F_m n u) (ha : a < n) : E_v false n L xs (d + 3) 68 [Sum.inr (Sum.inl (20, 0)), Sum.inl (nI a)] (v, u, c) (some (Sum.inl (d_wt u a))) (v, u, c) := by
  by_cases hu : u 21 0 a = 0
  · exact e_m_waits2 d hn hf ha hu
  · exact e_m_waits1 d hn hf ha hu
def N_M (n : Nat) (u : mV) (a : Nat) : Prop := (u 29 0 a = nI (ix (u 29 0 a)) ∧ ix (u 29 0 a) < n) ∧ (u 31 0 a = -1 ∨ ∃ t, t < n ∧ u 31 0 a = nI t)
theorem u2_k {n a : Nat} {u : mV} {k : Nat} (h : (Nat.beq k 22 || (Nat.beq k 24 || (Nat.beq k 25 || (Nat.beq k 26 || (Nat.beq k 27 || Nat.beq k 28))))) = false) : d_u2 n u a k = u k := (ddb_k h).trans (dag_k h)
set_option maxRecDepth 100000 in
theorem e_m_period0 (d : Nat) {n L : Nat} {xs : Nat → Int32} {v u : mV} {c : Nat} {x : Int32} (hn : n ≤ 6) (hf : F_m n u) (hx : c_in n x = 0) : E_v false n L xs (d + 3) 62 [Sum.inr (Sum.inl (20, 0)), Sum.inl x] (v, u, c) (some (Sum.inl (-1))) (v, u, c) := by
  refine E_mk mc_62 (by decide) ?_
  refine G_steps 2 (S1 := (2, [some (Sum.inr (Sum.inl (20, 0))), some (Sum.inl x), none, none, none], [Sum.inl x, Sum.inr (Sum.inl (20, 0))], (v, u, c))) rfl rfl ?_
  refine G_call (y := some (Sum.inl 0)) (M1 := (v, u, c)) rfl rfl (e_m_works0 _ hn hf hx) ?_
  refine G_is (S' := (5, [some (Sum.inr (Sum.inl (20, 0))), some (Sum.inl x), none, none, none], [Sum.inl 0], (v, u, c))) rfl ?_
  refine G_steps 1 (S1 := (if ¬ 0 = 0 then 10 else 8, [some (Sum.inr (Sum.inl (20, 0))), some (Sum.inl x), none, none, none], [], (v, u, c))) rfl rfl ?_
  refine G_nF rfl ?_
  refine G_steps 1 (S1 := (9, [some (Sum.inr (Sum.inl (20, 0))), some (Sum.inl x), none, none, none], [Sum.inl (-1)], (v, u, c))) rfl rfl ?_
  exact G_fin rfl rfl rfl
set_option maxRecDepth 100000 in
theorem e_m_period1 (d : Nat) {n L : Nat} {xs : Nat → Int32} {v u : mV} {c : Nat} {a : Nat} (hn : n ≤ 6) (hf : F_m n u) (ha : a < n) (hu : ¬ u 21 0 a = 0) : E_v false n L xs (d + 3) 62 [Sum.inr (Sum.inl (20, 0)), Sum.inl (nI a)] (v, u, c) (some (Sum.inl (-1))) (v, u, c) := by
  refine E_mk mc_62 (by decide) ?_
  refine G_steps 2 (S1 := (2, [some (Sum.inr (Sum.inl (20, 0))), some (Sum.inl (nI a)), none, none, none], [Sum.inl (nI a), Sum.inr (Sum.inl (20, 0))], (v, u, c))) rfl rfl ?_
  refine G_call (y := some (Sum.inl (d_wk u a))) (M1 := (v, u, c)) rfl rfl (e_m_works1 _ hn hf ha) ?_
  refine G_is (S' := (5, [some (Sum.inr (Sum.inl (20, 0))), some (Sum.inl (nI a)), none, none, none], [Sum.inl (d_wk u a)], (v, u, c))) rfl ?_
  refine G_top (if_neg hu) ?_
  refine G_steps 1 (S1 := (if ¬ 0 = 0 then 10 else 8, [some (Sum.inr (Sum.inl (20, 0))), some (Sum.inl (nI a)), none, none, none], [], (v, u, c))) rfl rfl ?_
  refine G_nF rfl ?_
  refine G_steps 1 (S1 := (9, [some (Sum.inr (Sum.inl (20, 0))), some (Sum.inl (nI a)), none, none, none], [Sum.inl (-1)], (v, u, c))) rfl rfl ?_
  exact G_fin rfl rfl rfl
set_option maxRecDepth 100000 in
theorem e_m_period2 (d : Nat) {n L : Nat} {xs : Nat → Int32} {v u : mV} {c : Nat} {a : Nat} (hn : n ≤ 6) (hw : W_M n u) (ha : a < n) (hu : u 21 0 a = 0) (hN : N_M n u a) : E_v false n L xs (d + 3) 62 [Sum.inr (Sum.inl (20, 0)), Sum.inl (nI a)] (v, u, c) (some (Sum.inl (oI (d_mo n u a)))) (v, d_pd n u a, c) := by
  refine E_mk mc_62 (by decide) ?_
  have hf := hw.1
  have hn0 : 0 < n := by omega
  have hw2 : W_M n (d_u2 n u a) := wm_of hw (u2_k (k := 20) rfl)
  have ht0 := hN.1.2
  have hl0 : d_u2 n u a 29 0 a = nI (ix (u 29 0 a)) := (congrFun (congrFun (u2_k (k := 29) rfl) 0) a).trans hN.1.1
  refine G_steps 2 (S1 := (2, [some (Sum.inr (Sum.inl (20, 0))), some (Sum.inl (nI a)), none, none, none], [Sum.inl (nI a), Sum.inr (Sum.inl (20, 0))], (v, u, c))) rfl rfl ?_
  refine G_call (y := some (Sum.inl (d_wk u a))) (M1 := (v, u, c)) rfl rfl (e_m_works1 _ hn hf ha) ?_
  refine G_is (S' := (5, [some (Sum.inr (Sum.inl (20, 0))), some (Sum.inl (nI a)), none, none, none], [Sum.inl (d_wk u a)], (v, u, c))) rfl ?_
  refine G_top (if_pos hu) ?_
  refine G_steps 1 (S1 := (if ¬ 1 = 0 then 10 else 8, [some (Sum.inr (Sum.inl (20, 0))), some (Sum.inl (nI a)), none, none, none], [], (v, u, c))) rfl rfl ?_
  refine G_nT (by decide) ?_
  refine G_steps 2 (S1 := (12, [some (Sum.inr (Sum.inl (20, 0))), some (Sum.inl (nI a)), none, none, none], [Sum.inl (nI a), Sum.inr (Sum.inl (20, 0))], (v, u, c))) rfl rfl ?_
  refine G_call (y := none) (M1 := (v, d_ag u a n, c)) rfl rfl (e_m_age _ hn hf ha) ?_
  refine G_is (S' := (15, [some (Sum.inr (Sum.inl (20, 0))), some (Sum.inl (nI a)), none, none, none], [], (v, d_ag u a n, c))) rfl ?_
  refine G_steps 2 (S1 := (17, [some (Sum.inr (Sum.inl (20, 0))), some (Sum.inl (nI a)), none, none, none], [Sum.inl (nI a), Sum.inr (Sum.inl (20, 0))], (v, d_ag u a n, c))) rfl rfl ?_
  refine G_call (y := none) (M1 := (v, d_u2 n u a, c)) rfl rfl (e_m_doubt _ hn ha ((congrFun (congrFun (dag_k (k := 31) rfl) 0) a).trans (rO_ok hn hN.2).1) (rO_ok hn hN.2).2) ?_
  refine G_is (S' := (20, [some (Sum.inr (Sum.inl (20, 0))), some (Sum.inl (nI a)), none, none, none], [], (v, d_u2 n u a, c))) rfl ?_
  refine G_steps 4 (S1 := (26, [some (Sum.inr (Sum.inl (20, 0))), some (Sum.inl (nI a)), some (Sum.inl (-1)), none, none], [Sum.inl ((d_u2 n u a) 20 0 0)], (v, d_u2 n u a, c))) rfl rfl ?_
  refine G_top hw2.1 ?_
  refine G_steps 1 (S1 := (27, [some (Sum.inr (Sum.inl (20, 0))), some (Sum.inl (nI a)), some (Sum.inl (-1)), some (Sum.inl (nI n)), none], [], (v, d_u2 n u a, c))) rfl rfl ?_
  have hmo : d_mo n u a = d_nx n (d_u2 n u a) a (ix (u 29 0 a)) n := rfl
  unfold d_pd
  rw [hmo]
  clear hmo
  have hrw : rw_ u = rw_ (d_u2 n u a) := by
    show ix (u 20 0 13) = ix (d_u2 n u a 20 0 13)
    rw [u2_k (k := 20) rfl]
  rw [hrw]
  clear hrw
  generalize ix (u 29 0 a) = t at *
  generalize d_u2 n u a = E at *
  refine G_is (S' := (27, [some (Sum.inr (Sum.inl (20, 0))), some (Sum.inl (nI a)), some (Sum.inl (oI (d_nx n E a t 0))), some (Sum.inl (nI (n - 0))), none], [], (v, E, c))) rfl ?_
  refine G_lox (S := fun j o => (27, [some (Sum.inr (Sum.inl (20, 0))), some (Sum.inl (nI a)), some (Sum.inl (oI (d_nx n E a t j))), some (Sum.inl (nI (n - j))), o], [], (v, E, c))) (N := n) (fun j hj o K => ?_) (fun o => ?_) none
  · obtain ⟨m, hm⟩ : ∃ m, m = (t + (n - j)) % n := ⟨_, rfl⟩
    have hmn : m < n := by rw [hm]; exact Nat.mod_lt _ hn0
    refine G_steps 3 (S1 := (if nI (n - j) < 1 then 82 else 32, [some (Sum.inr (Sum.inl (20, 0))), some (Sum.inl (nI a)), some (Sum.inl (oI (d_nx n E a t j))), some (Sum.inl (nI (n - j))), o], [], (v, E, c))) rfl rfl ?_
    refine G_iF (fun z => absurd ((nI_lt' (b := 1) (by omega) (by omega)).mp z) (by omega)) ?_
    refine G_steps 3 (S1 := (37, [some (Sum.inr (Sum.inl (20, 0))), some (Sum.inl (nI a)), some (Sum.inl (oI (d_nx n E a t j))), some (Sum.inl (nI (n - j))), o], [Sum.inl (nI a), Sum.inr (Sum.inl (29, 0))], (v, E, c))) rfl rfl ?_
    refine G_step (S1 := (38, [some (Sum.inr (Sum.inl (20, 0))), some (Sum.inl (nI a)), some (Sum.inl (oI (d_nx n E a t j))), some (Sum.inl (nI (n - j))), o], [Sum.inl (E 29 0 (ix (nI a)))], (v, E, c))) rfl (ib_nI (j := a) (len := 6) (by omega) (by omega)) ?_
    rw [ix_nI (j := a) (by omega)]
    refine G_top hl0 ?_
    refine G_steps 2 (S1 := (40, [some (Sum.inr (Sum.inl (20, 0))), some (Sum.inl (nI a)), some (Sum.inl (oI (d_nx n E a t j))), some (Sum.inl (nI (n - j))), o], [Sum.inl ((nI t) + (nI (n - j)))], (v, E, c))) rfl rfl ?_
    refine G_top (nI_ad t (n - j)) ?_
    refine G_steps 2 (S1 := (44, [some (Sum.inr (Sum.inl (20, 0))), some (Sum.inl (nI a)), some (Sum.inl (oI (d_nx n E a t j))), some (Sum.inl (nI (n - j))), o], [Sum.inl (E 20 0 0), Sum.inl (nI (t + (n - j)))], (v, E, c))) rfl rfl ?_
    refine G_top hw2.1 ?_
    refine G_step (S1 := (45, [some (Sum.inr (Sum.inl (20, 0))), some (Sum.inl (nI a)), some (Sum.inl (oI (d_nx n E a t j))), some (Sum.inl (nI (n - j))), o], [Sum.inl ((nI (t + (n - j))) - (nI (t + (n - j))) / (nI n) * (nI n))], (v, E, c))) rfl (nI_nz hn0 hn) ?_
    refine G_top ((nI_rem (t + (n - j)) (by omega) n (by omega) hn0).trans (congrArg nI hm.symm)) ?_
    refine G_steps 4 (S1 := (if nI m = nI a then 74 else 53, [some (Sum.inr (Sum.inl (20, 0))), some (Sum.inl (nI a)), some (Sum.inl (oI (d_nx n E a t j))), some (Sum.inl (nI (n - j))), some (Sum.inl (nI m))], [], (v, E, c))) rfl rfl ?_
    refine G_if (fun h1 => ?_) (fun h1 => ?_)
    · skip
      refine G_steps 4 (S1 := (27, [some (Sum.inr (Sum.inl (20, 0))), some (Sum.inl (nI a)), some (Sum.inl (oI (d_nx n E a t j))), some (Sum.inl ((nI (n - j)) + (-1))), some (Sum.inl (nI m))], [], (v, E, c))) rfl rfl ?_
      exact G_is (by rw [dec_nI (by omega), show n - j - 1 = n - (j + 1) by omega]; simp only [d_nx, ← hm, oI, if_pos h1]) (K (some (Sum.inl (nI m))))
    · skip
      refine G_steps 5 (S1 := (61, [some (Sum.inr (Sum.inl (20, 0))), some (Sum.inl (nI a)), some (Sum.inl (oI (d_nx n E a t j))), some (Sum.inl (nI (n - j))), some (Sum.inl (nI m))], [Sum.inl (6 * (nI a)), Sum.inr (Sum.inl (22, 0))], (v, E, c))) rfl rfl ?_
      refine G_top (nI_mul 6 a) ?_
      refine G_steps 2 (S1 := (64, [some (Sum.inr (Sum.inl (20, 0))), some (Sum.inl (nI a)), some (Sum.inl (oI (d_nx n E a t j))), some (Sum.inl (nI (n - j))), some (Sum.inl (nI m))], [Sum.inl ((nI (6 * a)) + (nI m)), Sum.inr (Sum.inl (22, 0))], (v, E, c))) rfl rfl ?_
      refine G_top (nI_ad (6 * a) m) ?_
      refine G_step (S1 := (65, [some (Sum.inr (Sum.inl (20, 0))), some (Sum.inl (nI a)), some (Sum.inl (oI (d_nx n E a t j))), some (Sum.inl (nI (n - j))), some (Sum.inl (nI m))], [Sum.inl (E 22 0 (ix (nI (6 * a + m))))], (v, E, c))) rfl (ib_nI (j := (6 * a + m)) (len := 36) (by omega) (by omega)) ?_
      rw [ix_nI (j := (6 * a + m)) (by omega)]
      refine G_steps 2 (S1 := (if E 22 0 (6 * a + m) = 2 then 74 else 69, [some (Sum.inr (Sum.inl (20, 0))), some (Sum.inl (nI a)), some (Sum.inl (oI (d_nx n E a t j))), some (Sum.inl (nI (n - j))), some (Sum.inl (nI m))], [], (v, E, c))) rfl rfl ?_
      refine G_if (fun h2 => ?_) (fun h2 => ?_)
      · skip
        refine G_steps 4 (S1 := (27, [some (Sum.inr (Sum.inl (20, 0))), some (Sum.inl (nI a)), some (Sum.inl (oI (d_nx n E a t j))), some (Sum.inl ((nI (n - j)) + (-1))), some (Sum.inl (nI m))], [], (v, E, c))) rfl rfl ?_
        exact G_is (by rw [dec_nI (by omega), show n - j - 1 = n - (j + 1) by omega]; simp only [d_nx, ← hm, oI, if_neg h1, if_pos h2]) (K (some (Sum.inl (nI m))))
      · skip
        refine G_steps 5 (S1 := (27, [some (Sum.inr (Sum.inl (20, 0))), some (Sum.inl (nI a)), some (Sum.inl (nI m)), some (Sum.inl ((nI (n - j)) + (-1))), some (Sum.inl (nI m))], [], (v, E, c))) rfl rfl ?_
        exact G_is (by rw [dec_nI (by omega), show n - j - 1 = n - (j + 1) by omega]; simp only [d_nx, ← hm, oI, if_neg h1, if_neg h2]) (K (some (Sum.inl (nI m))))
  · skip
    refine G_steps 3 (S1 := (if nI (n - n) < 1 then 82 else 32, [some (Sum.inr (Sum.inl (20, 0))), some (Sum.inl (nI a)), some (Sum.inl (oI (d_nx n E a t n))), some (Sum.inl (nI (n - n))), o], [], (v, E, c))) rfl rfl ?_
    refine G_iT ((nI_lt' (b := 1) (by omega) (by omega)).mpr (by omega)) ?_
    refine G_steps 4 (S1 := (88, [some (Sum.inr (Sum.inl (20, 0))), some (Sum.inl (nI a)), some (Sum.inl (oI (d_nx n E a t n))), some (Sum.inl (nI (n - n))), o], [Sum.inl (oI (d_nx n E a t n)), Sum.inl (nI a), Sum.inr (Sum.inl (31, 0))], (v, E, c))) rfl rfl ?_
    refine G_step (S1 := (89, [some (Sum.inr (Sum.inl (20, 0))), some (Sum.inl (nI a)), some (Sum.inl (oI (d_nx n E a t n))), some (Sum.inl (nI (n - n))), o], [], (v, m_u3 E 31 0 (ix (nI a)) (oI (d_nx n E a t n)), c))) rfl (ib_nI (j := a) (len := 6) (by omega) (by omega)) ?_
    rw [ix_nI (j := a) (by omega)]
    refine G_steps 4 (S1 := (95, [some (Sum.inr (Sum.inl (20, 0))), some (Sum.inl (nI a)), some (Sum.inl (oI (d_nx n E a t n))), some (Sum.inl (nI (n - n))), o], [Sum.inl 0, Sum.inl (nI a), Sum.inr (Sum.inl (32, 0))], (v, m_u3 E 31 0 a (oI (d_nx n E a t n)), c))) rfl rfl ?_
    refine G_step (S1 := (96, [some (Sum.inr (Sum.inl (20, 0))), some (Sum.inl (nI a)), some (Sum.inl (oI (d_nx n E a t n))), some (Sum.inl (nI (n - n))), o], [], (v, m_u3 (m_u3 E 31 0 a (oI (d_nx n E a t n))) 32 0 (ix (nI a)) 0, c))) rfl (ib_b (ib_nI (j := a) (len := 6) (by omega) (by omega)) rfl) ?_
    rw [ix_nI (j := a) (by omega)]
    refine G_steps 2 (S1 := (if oI (d_nx n E a t n) < 0 then 132 else 100, [some (Sum.inr (Sum.inl (20, 0))), some (Sum.inl (nI a)), some (Sum.inl (oI (d_nx n E a t n))), some (Sum.inl (nI (n - n))), o], [], (v, m_u3 (m_u3 E 31 0 a (oI (d_nx n E a t n))) 32 0 a 0, c))) rfl rfl ?_
    refine G_if (fun h1 => ?_) (fun h1 => ?_)
    · skip
      refine G_steps 1 (S1 := (133, [some (Sum.inr (Sum.inl (20, 0))), some (Sum.inl (nI a)), some (Sum.inl (oI (d_nx n E a t n))), some (Sum.inl (nI (n - n))), o], [Sum.inl (oI (d_nx n E a t n))], (v, m_u3 (m_u3 E 31 0 a (oI (d_nx n E a t n))) 32 0 a 0, c))) rfl rfl ?_
      exact G_fin rfl rfl (M_2 (by rw [if_pos h1]))
    · skip
      refine G_steps 4 (S1 := (106, [some (Sum.inr (Sum.inl (20, 0))), some (Sum.inl (nI a)), some (Sum.inl (oI (d_nx n E a t n))), some (Sum.inl (nI (n - n))), o], [Sum.inl (oI (d_nx n E a t n)), Sum.inl (nI a), Sum.inr (Sum.inl (29, 0))], (v, m_u3 (m_u3 E 31 0 a (oI (d_nx n E a t n))) 32 0 a 0, c))) rfl rfl ?_
      refine G_step (S1 := (107, [some (Sum.inr (Sum.inl (20, 0))), some (Sum.inl (nI a)), some (Sum.inl (oI (d_nx n E a t n))), some (Sum.inl (nI (n - n))), o], [], (v, m_u3 (m_u3 (m_u3 E 31 0 a (oI (d_nx n E a t n))) 32 0 a 0) 29 0 (ix (nI a)) (oI (d_nx n E a t n)), c))) rfl (ib_nI (j := a) (len := 6) (by omega) (by omega)) ?_
      rw [ix_nI (j := a) (by omega)]
      refine G_steps 4 (S1 := (113, [some (Sum.inr (Sum.inl (20, 0))), some (Sum.inl (nI a)), some (Sum.inl (oI (d_nx n E a t n))), some (Sum.inl (nI (n - n))), o], [Sum.inl (nI a), Sum.inr (Sum.inl (30, 0)), Sum.inl (nI a), Sum.inr (Sum.inl (30, 0))], (v, m_u3 (m_u3 (m_u3 E 31 0 a (oI (d_nx n E a t n))) 32 0 a 0) 29 0 a (oI (d_nx n E a t n)), c))) rfl rfl ?_
      refine G_step (S1 := (114, [some (Sum.inr (Sum.inl (20, 0))), some (Sum.inl (nI a)), some (Sum.inl (oI (d_nx n E a t n))), some (Sum.inl (nI (n - n))), o], [Sum.inl (E 30 0 (ix (nI a))), Sum.inl (nI a), Sum.inr (Sum.inl (30, 0))], (v, m_u3 (m_u3 (m_u3 E 31 0 a (oI (d_nx n E a t n))) 32 0 a 0) 29 0 a (oI (d_nx n E a t n)), c))) rfl (ib_nI (j := a) (len := 6) (by omega) (by omega)) ?_
      rw [ix_nI (j := a) (by omega)]
      refine G_steps 2 (S1 := (116, [some (Sum.inr (Sum.inl (20, 0))), some (Sum.inl (nI a)), some (Sum.inl (oI (d_nx n E a t n))), some (Sum.inl (nI (n - n))), o], [Sum.inl ((E 30 0 a) + 1), Sum.inl (nI a), Sum.inr (Sum.inl (30, 0))], (v, m_u3 (m_u3 (m_u3 E 31 0 a (oI (d_nx n E a t n))) 32 0 a 0) 29 0 a (oI (d_nx n E a t n)), c))) rfl rfl ?_
      refine G_step (S1 := (117, [some (Sum.inr (Sum.inl (20, 0))), some (Sum.inl (nI a)), some (Sum.inl (oI (d_nx n E a t n))), some (Sum.inl (nI (n - n))), o], [], (v, m_u3 (m_u3 (m_u3 (m_u3 E 31 0 a (oI (d_nx n E a t n))) 32 0 a 0) 29 0 a (oI (d_nx n E a t n))) 30 0 (ix (nI a)) ((E 30 0 a) + 1), c))) rfl (ib_nI (j := a) (len := 6) (by omega) (by omega)) ?_
      rw [ix_nI (j := a) (by omega)]
      refine G_steps 9 (S1 := (128, [some (Sum.inr (Sum.inl (20, 0))), some (Sum.inl (nI a)), some (Sum.inl (oI (d_nx n E a t n))), some (Sum.inl (nI (n - n))), o], [Sum.inl (nI a), Sum.inr (Sum.inl (30, 0)), Sum.inl (oI (d_nx n E a t n)), Sum.inl (nI a), Sum.inl (oI (d_nx n E a t n)), Sum.inl (nI a), Sum.inl 1, Sum.inr (Sum.inl (20, 0))], (v, m_u3 (m_u3 (m_u3 (m_u3 E 31 0 a (oI (d_nx n E a t n))) 32 0 a 0) 29 0 a (oI (d_nx n E a t n))) 30 0 a ((E 30 0 a) + 1), c))) rfl rfl ?_
      refine G_step (S1 := (129, [some (Sum.inr (Sum.inl (20, 0))), some (Sum.inl (nI a)), some (Sum.inl (oI (d_nx n E a t n))), some (Sum.inl (nI (n - n))), o], [Sum.inl ((m_u3 (m_u3 (m_u3 (m_u3 E 31 0 a (oI (d_nx n E a t n))) 32 0 a 0) 29 0 a (oI (d_nx n E a t n))) 30 0 a ((E 30 0 a) + 1)) 30 0 (ix (nI a))), Sum.inl (oI (d_nx n E a t n)), Sum.inl (nI a), Sum.inl (oI (d_nx n E a t n)), Sum.inl (nI a), Sum.inl 1, Sum.inr (Sum.inl (20, 0))], (v, m_u3 (m_u3 (m_u3 (m_u3 E 31 0 a (oI (d_nx n E a t n))) 32 0 a 0) 29 0 a (oI (d_nx n E a t n))) 30 0 a ((E 30 0 a) + 1), c))) rfl (ib_nI (j := a) (len := 6) (by omega) (by omega)) ?_
      rw [ix_nI (j := a) (by omega)]
      refine G_top u3_s ?_
      refine G_call (y := none) (M1 := (v, d_send n (m_u3 (m_u3 (m_u3 (m_u3 E 31 0 a (oI (d_nx n E a t n))) 32 0 a 0) 29 0 a (oI (d_nx n E a t n))) 30 0 a ((E 30 0 a) + 1)) a 1 (oI (d_nx n E a t n)) (nI a) (oI (d_nx n E a t n)) ((E 30 0 a) + 1) (rw_ E), c)) rfl rfl (e_m_send _ hn hw2.1 ha hw2.2.1 hw2.2.2) ?_
      refine G_is (S' := (132, [some (Sum.inr (Sum.inl (20, 0))), some (Sum.inl (nI a)), some (Sum.inl (oI (d_nx n E a t n))), some (Sum.inl (nI (n - n))), o], [], (v, d_send n (m_u3 (m_u3 (m_u3 (m_u3 E 31 0 a (oI (d_nx n E a t n))) 32 0 a 0) 29 0 a (oI (d_nx n E a t n))) 30 0 a ((E 30 0 a) + 1)) a 1 (oI (d_nx n E a t n)) (nI a) (oI (d_nx n E a t n)) ((E 30 0 a) + 1) (rw_ E), c))) rfl ?_
      refine G_steps 1 (S1 := (133, [some (Sum.inr (Sum.inl (20, 0))), some (Sum.inl (nI a)), some (Sum.inl (oI (d_nx n E a t n))), some (Sum.inl (nI (n - n))), o], [Sum.inl (oI (d_nx n E a t n))], (v, d_send n (m_u3 (m_u3 (m_u3 (m_u3 E 31 0 a (oI (d_nx n E a t n))) 32 0 a 0) 29 0 a (oI (d_nx n E a t n))) 30 0 a ((E 30 0 a) + 1)) a 1 (oI (d_nx n E a t n)) (nI a) (oI (d_nx n E a t n)) ((E 30 0 a) + 1) (rw_ E), c))) rfl rfl ?_
      exact G_fin rfl rfl (M_2 (by rw [if_neg h1]; rfl))
