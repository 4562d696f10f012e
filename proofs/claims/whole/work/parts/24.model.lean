theorem hl_M {n a t : Nat} {u : mV} (hw : W_M n u) : ∀ j, W_M n (d_hl n u a t j).2 ∧ (d_hl n u a t j).2 31 = u 31 := by
  intro j
  induction j with
  | zero => exact ⟨hw, rfl⟩
  | succ j ih =>
    unfold d_hl
    split
    · exact ih
    · split
      · exact ih
      · split
        · exact ih
        · exact ⟨wm_send ih.1, (dsend_k rfl).trans ih.2⟩
set_option maxRecDepth 100000 in
theorem e_m_help0 (d : Nat) {n L : Nat} {xs : Nat → Int32} {v u : mV} {c : Nat} {x : Int32} (hn : n ≤ 6) (hf : F_m n u) (hx : c_in n x = 0) : E_v false n L xs (d + 4) 67 [Sum.inr (Sum.inl (20, 0)), Sum.inl x] (v, u, c) (some (Sum.inl (-1))) (v, u, c) := by
  refine E_mk mc_67 (by decide) ?_
  refine G_steps 2 (S1 := (2, [some (Sum.inr (Sum.inl (20, 0))), some (Sum.inl x), none, none, none], [Sum.inl x, Sum.inr (Sum.inl (20, 0))], (v, u, c))) rfl rfl ?_
  refine G_call (y := some (Sum.inl 0)) (M1 := (v, u, c)) rfl rfl (e_m_waits0 _ hn hf hx) ?_
  refine G_is (S' := (5, [some (Sum.inr (Sum.inl (20, 0))), some (Sum.inl x), none, none, none], [Sum.inl 0], (v, u, c))) rfl ?_
  refine G_steps 1 (S1 := (if ¬ 0 = 0 then 10 else 8, [some (Sum.inr (Sum.inl (20, 0))), some (Sum.inl x), none, none, none], [], (v, u, c))) rfl rfl ?_
  refine G_nF rfl ?_
  refine G_steps 1 (S1 := (9, [some (Sum.inr (Sum.inl (20, 0))), some (Sum.inl x), none, none, none], [Sum.inl (-1)], (v, u, c))) rfl rfl ?_
  exact G_fin rfl rfl rfl
set_option maxRecDepth 100000 in
theorem e_m_help1 (d : Nat) {n L : Nat} {xs : Nat → Int32} {v u : mV} {c : Nat} {a : Nat} (hn : n ≤ 6) (hf : F_m n u) (ha : a < n) (hwt : d_wt u a = 0) : E_v false n L xs (d + 4) 67 [Sum.inr (Sum.inl (20, 0)), Sum.inl (nI a)] (v, u, c) (some (Sum.inl (-1))) (v, u, c) := by
  refine E_mk mc_67 (by decide) ?_
  refine G_steps 2 (S1 := (2, [some (Sum.inr (Sum.inl (20, 0))), some (Sum.inl (nI a)), none, none, none], [Sum.inl (nI a), Sum.inr (Sum.inl (20, 0))], (v, u, c))) rfl rfl ?_
  refine G_call (y := some (Sum.inl (d_wt u a))) (M1 := (v, u, c)) rfl rfl (e_m_waits _ hn hf ha) ?_
  refine G_is (S' := (5, [some (Sum.inr (Sum.inl (20, 0))), some (Sum.inl (nI a)), none, none, none], [Sum.inl (d_wt u a)], (v, u, c))) rfl ?_
  refine G_top hwt ?_
  refine G_steps 1 (S1 := (if ¬ 0 = 0 then 10 else 8, [some (Sum.inr (Sum.inl (20, 0))), some (Sum.inl (nI a)), none, none, none], [], (v, u, c))) rfl rfl ?_
  refine G_nF rfl ?_
  refine G_steps 1 (S1 := (9, [some (Sum.inr (Sum.inl (20, 0))), some (Sum.inl (nI a)), none, none, none], [Sum.inl (-1)], (v, u, c))) rfl rfl ?_
  exact G_fin rfl rfl rfl
set_option maxRecDepth 100000 in
theorem e_m_help2 (d : Nat) {n L : Nat} {xs : Nat → Int32} {v u : mV} {c : Nat} {a t : Nat} (hn : n ≤ 6) (hw : W_M n u) (ha : a < n) (hwt : d_wt u a = 1) (ht : t < n) (hto : u 31 0 a = nI t) : E_v false n L xs (d + 4) 67 [Sum.inr (Sum.inl (20, 0)), Sum.inl (nI a)] (v, u, c) (some (Sum.inl (nI (d_hl n u a t (n - 1)).1))) (v, (d_hl n u a t (n - 1)).2, c) := by
  refine E_mk mc_67 (by decide) ?_
  have hf := hw.1
  have hn0 : 0 < n := by omega
  refine G_steps 2 (S1 := (2, [some (Sum.inr (Sum.inl (20, 0))), some (Sum.inl (nI a)), none, none, none], [Sum.inl (nI a), Sum.inr (Sum.inl (20, 0))], (v, u, c))) rfl rfl ?_
  refine G_call (y := some (Sum.inl (d_wt u a))) (M1 := (v, u, c)) rfl rfl (e_m_waits _ hn hf ha) ?_
  refine G_is (S' := (5, [some (Sum.inr (Sum.inl (20, 0))), some (Sum.inl (nI a)), none, none, none], [Sum.inl (d_wt u a)], (v, u, c))) rfl ?_
  refine G_top hwt ?_
  refine G_steps 1 (S1 := (if ¬ 1 = 0 then 10 else 8, [some (Sum.inr (Sum.inl (20, 0))), some (Sum.inl (nI a)), none, none, none], [], (v, u, c))) rfl rfl ?_
  refine G_nT (by decide) ?_
  refine G_steps 4 (S1 := (14, [some (Sum.inr (Sum.inl (20, 0))), some (Sum.inl (nI a)), some (Sum.inl 0), some (Sum.inl 1), none], [], (v, u, c))) rfl rfl ?_
  refine G_is (S' := (14, [some (Sum.inr (Sum.inl (20, 0))), some (Sum.inl (nI a)), some (Sum.inl (nI (d_hl n u a t 0).1)), some (Sum.inl (nI (1 + 0))), none], [], (v, (d_hl n u a t 0).2, c))) rfl ?_
  refine G_lox (S := fun j o => (14, [some (Sum.inr (Sum.inl (20, 0))), some (Sum.inl (nI a)), some (Sum.inl (nI (d_hl n u a t j).1)), some (Sum.inl (nI (1 + j))), o], [], (v, (d_hl n u a t j).2, c))) (N := n - 1) (fun j hj o K => ?_) (fun o => ?_) none
  · have hP2 := hl_M (a := a) (t := t) hw j
    generalize hP : d_hl n u a t j = P at *
    obtain ⟨m, hm⟩ : ∃ m, m = (t + (1 + j)) % n := ⟨_, rfl⟩
    have hmn : m < n := by rw [hm]; exact Nat.mod_lt _ hn0
    refine G_steps 3 (S1 := (19, [some (Sum.inr (Sum.inl (20, 0))), some (Sum.inl (nI a)), some (Sum.inl (nI P.1)), some (Sum.inl (nI (1 + j))), o], [Sum.inl (P.2 20 0 0), Sum.inl (nI (1 + j))], (v, P.2, c))) rfl rfl ?_
    refine G_top hP2.1.1 ?_
    refine G_steps 1 (S1 := (if nI n ≤ nI (1 + j) then 94 else 22, [some (Sum.inr (Sum.inl (20, 0))), some (Sum.inl (nI a)), some (Sum.inl (nI P.1)), some (Sum.inl (nI (1 + j))), o], [], (v, P.2, c))) rfl rfl ?_
    refine G_iF (fun z => absurd ((nI_le' (by omega) (by omega)).mp z) (by omega)) ?_
    refine G_steps 3 (S1 := (27, [some (Sum.inr (Sum.inl (20, 0))), some (Sum.inl (nI a)), some (Sum.inl (nI P.1)), some (Sum.inl (nI (1 + j))), o], [Sum.inl (nI a), Sum.inr (Sum.inl (31, 0))], (v, P.2, c))) rfl rfl ?_
    refine G_step (S1 := (28, [some (Sum.inr (Sum.inl (20, 0))), some (Sum.inl (nI a)), some (Sum.inl (nI P.1)), some (Sum.inl (nI (1 + j))), o], [Sum.inl (P.2 31 0 (ix (nI a)))], (v, P.2, c))) rfl (ib_nI (j := a) (len := 6) (by omega) (by omega)) ?_
    rw [ix_nI (j := a) (by omega)]
    refine G_top ((congrFun (congrFun hP2.2 0) a).trans hto) ?_
    refine G_steps 2 (S1 := (30, [some (Sum.inr (Sum.inl (20, 0))), some (Sum.inl (nI a)), some (Sum.inl (nI P.1)), some (Sum.inl (nI (1 + j))), o], [Sum.inl ((nI t) + (nI (1 + j)))], (v, P.2, c))) rfl rfl ?_
    refine G_top (nI_ad t (1 + j)) ?_
    refine G_steps 2 (S1 := (34, [some (Sum.inr (Sum.inl (20, 0))), some (Sum.inl (nI a)), some (Sum.inl (nI P.1)), some (Sum.inl (nI (1 + j))), o], [Sum.inl (P.2 20 0 0), Sum.inl (nI (t + (1 + j)))], (v, P.2, c))) rfl rfl ?_
    refine G_top hP2.1.1 ?_
    refine G_step (S1 := (35, [some (Sum.inr (Sum.inl (20, 0))), some (Sum.inl (nI a)), some (Sum.inl (nI P.1)), some (Sum.inl (nI (1 + j))), o], [Sum.inl ((nI (t + (1 + j))) - (nI (t + (1 + j))) / (nI n) * (nI n))], (v, P.2, c))) rfl (nI_nz hn0 hn) ?_
    refine G_top ((nI_rem (t + (1 + j)) (by omega) n (by omega) hn0).trans (congrArg nI hm.symm)) ?_
    refine G_steps 4 (S1 := (if 2 ≤ nI P.1 then 88 else 42, [some (Sum.inr (Sum.inl (20, 0))), some (Sum.inl (nI a)), some (Sum.inl (nI P.1)), some (Sum.inl (nI (1 + j))), some (Sum.inl (nI m))], [], (v, P.2, c))) rfl rfl ?_
    refine G_if (fun h1 => ?_) (fun h1 => ?_)
    · skip
      refine G_steps 2 (S1 := (14, [some (Sum.inr (Sum.inl (20, 0))), some (Sum.inl (nI a)), some (Sum.inl (nI P.1)), some (Sum.inl ((nI (1 + j)) + 1)), some (Sum.inl (nI m))], [], (v, P.2, c))) rfl rfl ?_
      exact G_is (by simp only [d_hl, ← hm, hP, if_pos h1, nI_succ P.1, show nI (1 + (j + 1)) = nI (1 + j) + 1 from nI_succ (1 + j)]) (K (some (Sum.inl (nI m))))
    · skip
      refine G_steps 3 (S1 := (if nI m = nI a then 88 else 48, [some (Sum.inr (Sum.inl (20, 0))), some (Sum.inl (nI a)), some (Sum.inl (nI P.1)), some (Sum.inl (nI (1 + j))), some (Sum.inl (nI m))], [], (v, P.2, c))) rfl rfl ?_
      refine G_if (fun h2 => ?_) (fun h2 => ?_)
      · skip
        refine G_steps 2 (S1 := (14, [some (Sum.inr (Sum.inl (20, 0))), some (Sum.inl (nI a)), some (Sum.inl (nI P.1)), some (Sum.inl ((nI (1 + j)) + 1)), some (Sum.inl (nI m))], [], (v, P.2, c))) rfl rfl ?_
        exact G_is (by simp only [d_hl, ← hm, hP, if_neg h1, if_pos h2, nI_succ P.1, show nI (1 + (j + 1)) = nI (1 + j) + 1 from nI_succ (1 + j)]) (K (some (Sum.inl (nI m))))
      · skip
        refine G_steps 5 (S1 := (56, [some (Sum.inr (Sum.inl (20, 0))), some (Sum.inl (nI a)), some (Sum.inl (nI P.1)), some (Sum.inl (nI (1 + j))), some (Sum.inl (nI m))], [Sum.inl (6 * (nI a)), Sum.inr (Sum.inl (22, 0))], (v, P.2, c))) rfl rfl ?_
        refine G_top (nI_mul 6 a) ?_
        refine G_steps 2 (S1 := (59, [some (Sum.inr (Sum.inl (20, 0))), some (Sum.inl (nI a)), some (Sum.inl (nI P.1)), some (Sum.inl (nI (1 + j))), some (Sum.inl (nI m))], [Sum.inl ((nI (6 * a)) + (nI m)), Sum.inr (Sum.inl (22, 0))], (v, P.2, c))) rfl rfl ?_
        refine G_top (nI_ad (6 * a) m) ?_
        refine G_step (S1 := (60, [some (Sum.inr (Sum.inl (20, 0))), some (Sum.inl (nI a)), some (Sum.inl (nI P.1)), some (Sum.inl (nI (1 + j))), some (Sum.inl (nI m))], [Sum.inl (P.2 22 0 (ix (nI (6 * a + m))))], (v, P.2, c))) rfl (ib_nI (j := (6 * a + m)) (len := 36) (by omega) (by omega)) ?_
        rw [ix_nI (j := (6 * a + m)) (by omega)]
        refine G_steps 2 (S1 := (if P.2 22 0 (6 * a + m) = 2 then 88 else 64, [some (Sum.inr (Sum.inl (20, 0))), some (Sum.inl (nI a)), some (Sum.inl (nI P.1)), some (Sum.inl (nI (1 + j))), some (Sum.inl (nI m))], [], (v, P.2, c))) rfl rfl ?_
        refine G_if (fun h3 => ?_) (fun h3 => ?_)
        · skip
          refine G_steps 2 (S1 := (14, [some (Sum.inr (Sum.inl (20, 0))), some (Sum.inl (nI a)), some (Sum.inl (nI P.1)), some (Sum.inl ((nI (1 + j)) + 1)), some (Sum.inl (nI m))], [], (v, P.2, c))) rfl rfl ?_
          exact G_is (by simp only [d_hl, ← hm, hP, if_neg h1, if_neg h2, if_pos h3, nI_succ P.1, show nI (1 + (j + 1)) = nI (1 + j) + 1 from nI_succ (1 + j)]) (K (some (Sum.inl (nI m))))
        · skip
          refine G_steps 8 (S1 := (75, [some (Sum.inr (Sum.inl (20, 0))), some (Sum.inl (nI a)), some (Sum.inl (nI P.1)), some (Sum.inl (nI (1 + j))), some (Sum.inl (nI m))], [Sum.inl (nI a), Sum.inr (Sum.inl (31, 0)), Sum.inl (nI a), Sum.inl (nI m), Sum.inl (nI a), Sum.inl 3, Sum.inr (Sum.inl (20, 0))], (v, P.2, c))) rfl rfl ?_
          refine G_step (S1 := (76, [some (Sum.inr (Sum.inl (20, 0))), some (Sum.inl (nI a)), some (Sum.inl (nI P.1)), some (Sum.inl (nI (1 + j))), some (Sum.inl (nI m))], [Sum.inl (P.2 31 0 (ix (nI a))), Sum.inl (nI a), Sum.inl (nI m), Sum.inl (nI a), Sum.inl 3, Sum.inr (Sum.inl (20, 0))], (v, P.2, c))) rfl (ib_nI (j := a) (len := 6) (by omega) (by omega)) ?_
          rw [ix_nI (j := a) (by omega)]
          refine G_top ((congrFun (congrFun hP2.2 0) a).trans hto) ?_
          refine G_steps 3 (S1 := (81, [some (Sum.inr (Sum.inl (20, 0))), some (Sum.inl (nI a)), some (Sum.inl (nI P.1)), some (Sum.inl (nI (1 + j))), some (Sum.inl (nI m))], [Sum.inl (nI a), Sum.inr (Sum.inl (30, 0)), Sum.inl (nI t), Sum.inl (nI a), Sum.inl (nI m), Sum.inl (nI a), Sum.inl 3, Sum.inr (Sum.inl (20, 0))], (v, P.2, c))) rfl rfl ?_
          refine G_step (S1 := (82, [some (Sum.inr (Sum.inl (20, 0))), some (Sum.inl (nI a)), some (Sum.inl (nI P.1)), some (Sum.inl (nI (1 + j))), some (Sum.inl (nI m))], [Sum.inl (P.2 30 0 (ix (nI a))), Sum.inl (nI t), Sum.inl (nI a), Sum.inl (nI m), Sum.inl (nI a), Sum.inl 3, Sum.inr (Sum.inl (20, 0))], (v, P.2, c))) rfl (ib_nI (j := a) (len := 6) (by omega) (by omega)) ?_
          rw [ix_nI (j := a) (by omega)]
          refine G_call (y := none) (M1 := (v, d_send n P.2 a 3 (nI m) (nI a) (nI t) (P.2 30 0 a) (rw_ P.2), c)) rfl rfl (e_m_send _ hn hP2.1.1 ha hP2.1.2.1 hP2.1.2.2) ?_
          refine G_is (S' := (85, [some (Sum.inr (Sum.inl (20, 0))), some (Sum.inl (nI a)), some (Sum.inl (nI P.1)), some (Sum.inl (nI (1 + j))), some (Sum.inl (nI m))], [], (v, d_send n P.2 a 3 (nI m) (nI a) (nI t) (P.2 30 0 a) (rw_ P.2), c))) rfl ?_
          refine G_steps 3 (S1 := (14, [some (Sum.inr (Sum.inl (20, 0))), some (Sum.inl (nI a)), some (Sum.inl ((nI P.1) + 1)), some (Sum.inl ((nI (1 + j)) + 1)), some (Sum.inl (nI m))], [], (v, d_send n P.2 a 3 (nI m) (nI a) (nI t) (P.2 30 0 a) (rw_ P.2), c))) rfl rfl ?_
          exact G_is (by simp only [d_hl, ← hm, hP, if_neg h1, if_neg h2, if_neg h3, nI_succ P.1, show nI (1 + (j + 1)) = nI (1 + j) + 1 from nI_succ (1 + j)]) (K (some (Sum.inl (nI m))))
  · have hP2 := hl_M (a := a) (t := t) hw (n - 1)
    generalize hP : d_hl n u a t (n - 1) = P at *
    refine G_steps 3 (S1 := (19, [some (Sum.inr (Sum.inl (20, 0))), some (Sum.inl (nI a)), some (Sum.inl (nI P.1)), some (Sum.inl (nI (1 + (n - 1)))), o], [Sum.inl (P.2 20 0 0), Sum.inl (nI (1 + (n - 1)))], (v, P.2, c))) rfl rfl ?_
    refine G_top hP2.1.1 ?_
    refine G_steps 1 (S1 := (if nI n ≤ nI (1 + (n - 1)) then 94 else 22, [some (Sum.inr (Sum.inl (20, 0))), some (Sum.inl (nI a)), some (Sum.inl (nI P.1)), some (Sum.inl (nI (1 + (n - 1)))), o], [], (v, P.2, c))) rfl rfl ?_
    refine G_iT ((nI_le' (by omega) (by omega)).mpr (by omega)) ?_
    refine G_steps 1 (S1 := (95, [some (Sum.inr (Sum.inl (20, 0))), some (Sum.inl (nI a)), some (Sum.inl (nI P.1)), some (Sum.inl (nI (1 + (n - 1)))), o], [Sum.inl (nI P.1)], (v, P.2, c))) rfl rfl ?_
    exact G_fin rfl rfl rfl
def d_aa (n : Nat) : Nat → mV → mV
  | 0, u => u
  | r + 1, u => if u 20 0 13 ≤ 0 then u else d_aa n r (d_arr n u 0)
def d_an (n : Nat) : Nat → mV → Nat
  | 0, _ => 0
  | r + 1, u => if u 20 0 13 ≤ 0 then 0 else d_an n r (d_arr n u 0) + 1
def I_M (n : Nat) (u : mV) : Prop := W_M n u ∧ (0 < rw_ u → M_24 n (d_to u 0 (rw_ u - 1))) ∧ ∀ a, a < n → N_M n u a
theorem rw_pos {n : Nat} {u : mV} (hw : W_M n u) (h : ¬ u 20 0 13 ≤ 0) : 0 < rw_ u := by
  rcases Nat.eq_zero_or_pos (rw_ u) with z | z
  · refine absurd ?_ h
    rw [hw.2.1, z]
    decide
  · exact z
set_option maxRecDepth 100000 in
theorem em_loop (d : Nat) {n L : Nat} {xs : Nat → Int32} {v : mV} {c : Nat} {y : Option aV} {M1 : aM} {J : mV → Prop} (hn : n ≤ 6) (hJ : ∀ u, J u → I_M n u) (hA : ∀ u, J u → 0 < rw_ u → J (d_arr n u 0)) : ∀ (r k : Nat) (u : mV), J u → k + r = 10000 → y = some (Sum.inl (nI (k + d_an n r u))) → M1 = (v, d_aa n r u, c) → G_o false n L xs (E_v false n L xs (d + 3)) (l_k cd_70) (fun S1 => r_F (l_k cd_70) S1 = some (true, y, M1)) (4, [some (Sum.inr (Sum.inl (20, 0))), some (Sum.inl (nI k)), some (Sum.inl (nI k))], [], (v, u, c)) := by
  intro r
  induction r with
  | zero =>
    intro k u hv hk hy hM
    refine G_steps 3 (S1 := (if 10000 ≤ nI k then 32 else 11, [some (Sum.inr (Sum.inl (20, 0))), some (Sum.inl (nI k)), some (Sum.inl (nI k))], [], (v, u, c))) rfl rfl ?_
    refine G_iT ((nI_le' (a := 10000) (by omega) (by omega)).mpr (by omega)) ?_
    refine G_steps 1 (S1 := (33, [some (Sum.inr (Sum.inl (20, 0))), some (Sum.inl (nI k)), some (Sum.inl (nI k))], [Sum.inl (nI k)], (v, u, c))) rfl rfl ?_
    exact G_fin rfl (by rw [hy]; simp only [d_an, Nat.add_zero]) (by rw [hM]; simp only [d_aa])
  | succ r ih =>
    intro k u hv hk hy hM
    refine G_steps 3 (S1 := (if 10000 ≤ nI k then 32 else 11, [some (Sum.inr (Sum.inl (20, 0))), some (Sum.inl (nI k)), some (Sum.inl (nI k))], [], (v, u, c))) rfl rfl ?_
    refine G_iF (fun z => absurd ((nI_le' (a := 10000) (by omega) (by omega)).mp z) (by omega)) ?_
    refine G_steps 3 (S1 := (if u 20 0 13 ≤ 0 then 32 else 18, [some (Sum.inr (Sum.inl (20, 0))), some (Sum.inl (nI k)), some (Sum.inl (nI k))], [], (v, u, c))) rfl rfl ?_
    refine G_if (fun h1 => ?_) (fun h1 => ?_)
    · skip
      refine G_steps 1 (S1 := (33, [some (Sum.inr (Sum.inl (20, 0))), some (Sum.inl (nI k)), some (Sum.inl (nI k))], [Sum.inl (nI k)], (v, u, c))) rfl rfl ?_
      exact G_fin rfl (by rw [hy]; simp only [d_an, Nat.add_zero, if_pos h1]) (by rw [hM]; simp only [d_aa, if_pos h1])
    · skip
      refine G_steps 2 (S1 := (20, [some (Sum.inr (Sum.inl (20, 0))), some (Sum.inl (nI k)), some (Sum.inl (nI k))], [Sum.inl 0, Sum.inr (Sum.inl (20, 0))], (v, u, c))) rfl rfl ?_
      refine G_call (y := none) (M1 := (v, d_arr n u 0, c)) rfl rfl (e_m_arrive (k := 0) _ hn (hJ u hv).1 (rw_pos (hJ u hv).1 h1) ((hJ u hv).2.1 (rw_pos (hJ u hv).1 h1))) ?_
      refine G_is (S' := (23, [some (Sum.inr (Sum.inl (20, 0))), some (Sum.inl (nI k)), some (Sum.inl (nI k))], [], (v, d_arr n u 0, c))) rfl ?_
      refine G_steps 3 (S1 := (4, [some (Sum.inr (Sum.inl (20, 0))), some (Sum.inl ((nI k) + 1)), some (Sum.inl ((nI k) + 1))], [], (v, d_arr n u 0, c))) rfl rfl ?_
      rw [← nI_succ]
      exact ih (k + 1) _ (hA u hv (rw_pos (hJ u hv).1 h1)) (by omega) (by rw [hy, d_an, if_neg h1, show k + (d_an n r (d_arr n u 0) + 1) = k + 1 + d_an n r (d_arr n u 0) by omega]) (by rw [hM, d_aa, if_neg h1])
set_option maxRecDepth 100000 in
theorem e_m_empty (d : Nat) {n L : Nat} {xs : Nat → Int32} {v u : mV} {c : Nat} {J : mV → Prop} (hn : n ≤ 6) (hJ : ∀ u, J u → I_M n u) (hA : ∀ u, J u → 0 < rw_ u → J (d_arr n u 0)) (hv : J u) : E_v false n L xs (d + 4) 70 [Sum.inr (Sum.inl (20, 0))] (v, u, c) (some (Sum.inl (nI (d_an n 10000 u)))) (v, d_aa n 10000 u, c) := by
  refine E_mk mc_70 (by decide) ?_
  refine G_steps 4 (S1 := (4, [some (Sum.inr (Sum.inl (20, 0))), some (Sum.inl (nI 0)), some (Sum.inl (nI 0))], [], (v, u, c))) rfl rfl ?_
  exact em_loop d hn hJ hA 10000 0 u hv rfl (by rw [Nat.zero_add]) rfl
def d_py (n : Nat) (u : mV) (a : Nat) : Int32 := if u 21 0 a = 0 then oI (d_mo n u a) else -1
def d_pp (n : Nat) (u : mV) (a : Nat) : mV := if u 21 0 a = 0 then d_pd n u a else u
def d_hy (n : Nat) (u : mV) (a : Nat) : Int32 := if d_wt u a = 1 then nI (d_hl n u a (ix (u 31 0 a)) (n - 1)).1 else -1
def d_hh (n : Nat) (u : mV) (a : Nat) : mV := if d_wt u a = 1 then (d_hl n u a (ix (u 31 0 a)) (n - 1)).2 else u
theorem dwt_01 {u : mV} {a : Nat} : d_wt u a = 0 ∨ d_wt u a = 1 := by
  unfold d_wt
  split
  · split
    · exact Or.inl rfl
    · split
      · exact Or.inr rfl
      · exact Or.inl rfl
  · exact Or.inl rfl
theorem dwt_tg {n a : Nat} {u : mV} (hn : n ≤ 6) (hN : N_M n u a) (h : d_wt u a = 1) : u 31 0 a = nI (ix (u 31 0 a)) ∧ ix (u 31 0 a) < n := by
  rcases hN.2 with z | ⟨t, ht, z⟩
  · unfold d_wt at h
    split at h
    · rw [if_pos (by rw [z]; decide)] at h
      exact absurd h (by decide)
    · exact absurd h (by decide)
  · rw [z, ix_nI (by omega)]
    exact ⟨rfl, ht⟩
theorem e_m_period (d : Nat) {n L : Nat} {xs : Nat → Int32} {v u : mV} {c : Nat} {a : Nat} (hn : n ≤ 6) (hw : W_M n u) (ha : a < n) (hN : N_M n u a) : E_v false n L xs (d + 3) 62 [Sum.inr (Sum.inl (20, 0)), Sum.inl (nI a)] (v, u, c) (some (Sum.inl (d_py n u a))) (v, d_pp n u a, c) := by
  unfold d_py d_pp
  by_cases hu : u 21 0 a = 0
  · rw [if_pos hu, if_pos hu]
    exact e_m_period2 d hn hw ha hu hN
  · rw [if_neg hu, if_neg hu]
    exact e_m_period1 d hn hw.1 ha hu
theorem e_m_help (d : Nat) {n L : Nat} {xs : Nat → Int32} {v u : mV} {c : Nat} {a : Nat} (hn : n ≤ 6) (hw : W_M n u) (ha : a < n) (hN : N_M n u a) : E_v false n L xs (d + 4) 67 [Sum.inr (Sum.inl (20, 0)), Sum.inl (nI a)] (v, u, c) (some (Sum.inl (d_hy n u a))) (v, d_hh n u a, c) := by
  unfold d_hy d_hh
  rcases dwt_01 (u := u) (a := a) with h | h
  · rw [if_neg (by rw [h]; decide), if_neg (by rw [h]; decide)]
    exact e_m_help1 d hn hw.1 ha h
  · rw [if_pos h, if_pos h]
    exact e_m_help2 d hn hw ha h (dwt_tg hn hN h).2 (dwt_tg hn hN h).1
def d_q1 (n : Nat) (u : mV) : Nat → mV
  | 0 => u
  | k + 1 => d_pp n (d_q1 n u k) k
def d_q2 (n : Nat) (u : mV) : Nat → mV
  | 0 => u
  | k + 1 => d_hh n (d_q2 n u k) k
def d_rv (n : Nat) (u : mV) : mV := d_aa n 10000 (d_q2 n (d_aa n 10000 (d_q1 n u n)) n)
def d_ry (n : Nat) (u : mV) : Int32 := nI (d_an n 10000 (d_q1 n u n)) + nI (d_an n 10000 (d_q2 n (d_aa n 10000 (d_q1 n u n)) n))
def K_M (n : Nat) (J : mV → Prop) : Prop := (∀ u, J u → I_M n u) ∧ (∀ u, J u → 0 < rw_ u → J (d_arr n u 0)) ∧ (∀ u a, J u → a < n → J (d_pp n u a)) ∧ ∀ u a, J u → a < n → J (d_hh n u a)
theorem dq1_I {n : Nat} {J : mV → Prop} {u : mV} (hK : K_M n J) (hv : J u) : ∀ k, k ≤ n → J (d_q1 n u k) := by
  intro k
  induction k with
  | zero => exact fun _ => hv
  | succ k ih => exact fun hk => hK.2.2.1 _ k (ih (by omega)) (by omega)
theorem dq2_I {n : Nat} {J : mV → Prop} {u : mV} (hK : K_M n J) (hv : J u) : ∀ k, k ≤ n → J (d_q2 n u k) := by
  intro k
  induction k with
  | zero => exact fun _ => hv
  | succ k ih => exact fun hk => hK.2.2.2 _ k (ih (by omega)) (by omega)
theorem daa_I {n : Nat} {J : mV → Prop} (hK : K_M n J) : ∀ (r : Nat) (u : mV), J u → J (d_aa n r u) := by
  intro r
  induction r with
  | zero => exact fun _ h => h
  | succ r ih =>
    intro u hv
    unfold d_aa
    split
    · exact hv
    · rename_i h
      exact ih _ (hK.2.1 u hv (rw_pos (hK.1 u hv).1 h))
set_option maxRecDepth 100000 in
theorem e_m_round (d : Nat) {n L : Nat} {xs : Nat → Int32} {v u : mV} {c : Nat} {J : mV → Prop} (hn : n ≤ 6) (hK : K_M n J) (hv : J u) : E_v false n L xs (d + 5) 69 [Sum.inr (Sum.inl (20, 0))] (v, u, c) (some (Sum.inl (d_ry n u))) (v, d_rv n u, c) := by
  refine E_mk mc_69 (by decide) ?_
  refine G_steps 2 (S1 := (2, [some (Sum.inr (Sum.inl (20, 0))), some (Sum.inl (nI 0)), none, none], [], (v, d_q1 n u 0, c))) rfl rfl ?_
  refine G_lox (S := fun k o => (2, [some (Sum.inr (Sum.inl (20, 0))), some (Sum.inl (nI k)), o, none], [], (v, d_q1 n u k, c))) (N := n) (fun k hk o K => ?_) (fun o => ?_) none
  · have hi := hK.1 _ (dq1_I hK hv k (by omega))
    refine G_steps 3 (S1 := (7, [some (Sum.inr (Sum.inl (20, 0))), some (Sum.inl (nI k)), o, none], [Sum.inl ((d_q1 n u k) 20 0 0), Sum.inl (nI k)], (v, d_q1 n u k, c))) rfl rfl ?_
    refine G_top hi.1.1 ?_
    refine G_steps 1 (S1 := (if nI n ≤ nI k then 22 else 10, [some (Sum.inr (Sum.inl (20, 0))), some (Sum.inl (nI k)), o, none], [], (v, d_q1 n u k, c))) rfl rfl ?_
    refine G_iF (fun z => absurd ((nI_le' (by omega) (by omega)).mp z) (by omega)) ?_
    refine G_steps 2 (S1 := (12, [some (Sum.inr (Sum.inl (20, 0))), some (Sum.inl (nI k)), o, none], [Sum.inl (nI k), Sum.inr (Sum.inl (20, 0))], (v, d_q1 n u k, c))) rfl rfl ?_
    refine G_call (y := some (Sum.inl (d_py n (d_q1 n u k) k))) (M1 := (v, d_pp n (d_q1 n u k) k, c)) rfl rfl (e_m_period _ hn hi.1 hk (hi.2.2 k hk)) ?_
    refine G_is (S' := (15, [some (Sum.inr (Sum.inl (20, 0))), some (Sum.inl (nI k)), o, none], [Sum.inl (d_py n (d_q1 n u k) k)], (v, d_pp n (d_q1 n u k) k, c))) rfl ?_
    refine G_steps 3 (S1 := (2, [some (Sum.inr (Sum.inl (20, 0))), some (Sum.inl ((nI k) + 1)), some (Sum.inl (d_py n (d_q1 n u k) k)), none], [], (v, d_pp n (d_q1 n u k) k, c))) rfl rfl ?_
    exact G_is (by rw [← nI_succ]; rfl) (K (some (Sum.inl (d_py n (d_q1 n u k) k))))
  · have hv2 := daa_I hK 10000 _ (dq1_I hK hv n (Nat.le_refl _))
    refine G_steps 3 (S1 := (7, [some (Sum.inr (Sum.inl (20, 0))), some (Sum.inl (nI n)), o, none], [Sum.inl ((d_q1 n u n) 20 0 0), Sum.inl (nI n)], (v, d_q1 n u n, c))) rfl rfl ?_
    refine G_top ((hK.1 _ (dq1_I hK hv n (Nat.le_refl _))).1.1) ?_
    refine G_steps 1 (S1 := (if nI n ≤ nI n then 22 else 10, [some (Sum.inr (Sum.inl (20, 0))), some (Sum.inl (nI n)), o, none], [], (v, d_q1 n u n, c))) rfl rfl ?_
    refine G_iT ((nI_le' (by omega) (by omega)).mpr (Nat.le_refl _)) ?_
    refine G_steps 1 (S1 := (23, [some (Sum.inr (Sum.inl (20, 0))), some (Sum.inl (nI n)), o, none], [Sum.inr (Sum.inl (20, 0))], (v, d_q1 n u n, c))) rfl rfl ?_
    refine G_call (y := some (Sum.inl (nI (d_an n 10000 (d_q1 n u n))))) (M1 := (v, d_aa n 10000 (d_q1 n u n), c)) rfl rfl (e_m_empty _ hn hK.1 hK.2.1 (dq1_I hK hv n (Nat.le_refl _))) ?_
    refine G_is (S' := (26, [some (Sum.inr (Sum.inl (20, 0))), some (Sum.inl (nI n)), o, none], [Sum.inl (nI (d_an n 10000 (d_q1 n u n)))], (v, d_aa n 10000 (d_q1 n u n), c))) rfl ?_
    refine G_steps 3 (S1 := (29, [some (Sum.inr (Sum.inl (20, 0))), some (Sum.inl (nI (d_an n 10000 (d_q1 n u n)))), some (Sum.inl 0), none], [], (v, d_aa n 10000 (d_q1 n u n), c))) rfl rfl ?_
    refine G_is (S' := (29, [some (Sum.inr (Sum.inl (20, 0))), some (Sum.inl (nI (d_an n 10000 (d_q1 n u n)))), some (Sum.inl (nI 0)), none], [], (v, d_q2 n (d_aa n 10000 (d_q1 n u n)) 0, c))) rfl ?_
    refine G_lox (S := fun k o => (29, [some (Sum.inr (Sum.inl (20, 0))), some (Sum.inl (nI (d_an n 10000 (d_q1 n u n)))), some (Sum.inl (nI k)), o], [], (v, d_q2 n (d_aa n 10000 (d_q1 n u n)) k, c))) (N := n) (fun k hk o K => ?_) (fun o => ?_) none
    · have hi := hK.1 _ (dq2_I hK hv2 k (by omega))
      refine G_steps 3 (S1 := (34, [some (Sum.inr (Sum.inl (20, 0))), some (Sum.inl (nI (d_an n 10000 (d_q1 n u n)))), some (Sum.inl (nI k)), o], [Sum.inl ((d_q2 n (d_aa n 10000 (d_q1 n u n)) k) 20 0 0), Sum.inl (nI k)], (v, d_q2 n (d_aa n 10000 (d_q1 n u n)) k, c))) rfl rfl ?_
      refine G_top hi.1.1 ?_
      refine G_steps 1 (S1 := (if nI n ≤ nI k then 49 else 37, [some (Sum.inr (Sum.inl (20, 0))), some (Sum.inl (nI (d_an n 10000 (d_q1 n u n)))), some (Sum.inl (nI k)), o], [], (v, d_q2 n (d_aa n 10000 (d_q1 n u n)) k, c))) rfl rfl ?_
      refine G_iF (fun z => absurd ((nI_le' (by omega) (by omega)).mp z) (by omega)) ?_
      refine G_steps 2 (S1 := (39, [some (Sum.inr (Sum.inl (20, 0))), some (Sum.inl (nI (d_an n 10000 (d_q1 n u n)))), some (Sum.inl (nI k)), o], [Sum.inl (nI k), Sum.inr (Sum.inl (20, 0))], (v, d_q2 n (d_aa n 10000 (d_q1 n u n)) k, c))) rfl rfl ?_
      refine G_call (y := some (Sum.inl (d_hy n (d_q2 n (d_aa n 10000 (d_q1 n u n)) k) k))) (M1 := (v, d_hh n (d_q2 n (d_aa n 10000 (d_q1 n u n)) k) k, c)) rfl rfl (e_m_help _ hn hi.1 hk (hi.2.2 k hk)) ?_
      refine G_is (S' := (42, [some (Sum.inr (Sum.inl (20, 0))), some (Sum.inl (nI (d_an n 10000 (d_q1 n u n)))), some (Sum.inl (nI k)), o], [Sum.inl (d_hy n (d_q2 n (d_aa n 10000 (d_q1 n u n)) k) k)], (v, d_hh n (d_q2 n (d_aa n 10000 (d_q1 n u n)) k) k, c))) rfl ?_
      refine G_steps 3 (S1 := (29, [some (Sum.inr (Sum.inl (20, 0))), some (Sum.inl (nI (d_an n 10000 (d_q1 n u n)))), some (Sum.inl ((nI k) + 1)), some (Sum.inl (d_hy n (d_q2 n (d_aa n 10000 (d_q1 n u n)) k) k))], [], (v, d_hh n (d_q2 n (d_aa n 10000 (d_q1 n u n)) k) k, c))) rfl rfl ?_
      exact G_is (by rw [← nI_succ]; rfl) (K (some (Sum.inl (d_hy n (d_q2 n (d_aa n 10000 (d_q1 n u n)) k) k))))
    · skip
      refine G_steps 3 (S1 := (34, [some (Sum.inr (Sum.inl (20, 0))), some (Sum.inl (nI (d_an n 10000 (d_q1 n u n)))), some (Sum.inl (nI n)), o], [Sum.inl ((d_q2 n (d_aa n 10000 (d_q1 n u n)) n) 20 0 0), Sum.inl (nI n)], (v, d_q2 n (d_aa n 10000 (d_q1 n u n)) n, c))) rfl rfl ?_
      refine G_top ((hK.1 _ (dq2_I hK hv2 n (Nat.le_refl _))).1.1) ?_
      refine G_steps 1 (S1 := (if nI n ≤ nI n then 49 else 37, [some (Sum.inr (Sum.inl (20, 0))), some (Sum.inl (nI (d_an n 10000 (d_q1 n u n)))), some (Sum.inl (nI n)), o], [], (v, d_q2 n (d_aa n 10000 (d_q1 n u n)) n, c))) rfl rfl ?_
      refine G_iT ((nI_le' (by omega) (by omega)).mpr (Nat.le_refl _)) ?_
      refine G_steps 1 (S1 := (50, [some (Sum.inr (Sum.inl (20, 0))), some (Sum.inl (nI (d_an n 10000 (d_q1 n u n)))), some (Sum.inl (nI n)), o], [Sum.inr (Sum.inl (20, 0))], (v, d_q2 n (d_aa n 10000 (d_q1 n u n)) n, c))) rfl rfl ?_
      refine G_call (y := some (Sum.inl (nI (d_an n 10000 (d_q2 n (d_aa n 10000 (d_q1 n u n)) n))))) (M1 := (v, d_aa n 10000 (d_q2 n (d_aa n 10000 (d_q1 n u n)) n), c)) rfl rfl (e_m_empty _ hn hK.1 hK.2.1 (dq2_I hK hv2 n (Nat.le_refl _))) ?_
      refine G_is (S' := (53, [some (Sum.inr (Sum.inl (20, 0))), some (Sum.inl (nI (d_an n 10000 (d_q1 n u n)))), some (Sum.inl (nI n)), o], [Sum.inl (nI (d_an n 10000 (d_q2 n (d_aa n 10000 (d_q1 n u n)) n)))], (v, d_aa n 10000 (d_q2 n (d_aa n 10000 (d_q1 n u n)) n), c))) rfl ?_
      refine G_steps 4 (S1 := (57, [some (Sum.inr (Sum.inl (20, 0))), some (Sum.inl (nI (d_an n 10000 (d_q1 n u n)))), some (Sum.inl (nI (d_an n 10000 (d_q2 n (d_aa n 10000 (d_q1 n u n)) n)))), o], [Sum.inl ((nI (d_an n 10000 (d_q1 n u n))) + (nI (d_an n 10000 (d_q2 n (d_aa n 10000 (d_q1 n u n)) n))))], (v, d_aa n 10000 (d_q2 n (d_aa n 10000 (d_q1 n u n)) n), c))) rfl rfl ?_
      exact G_fin rfl rfl rfl
