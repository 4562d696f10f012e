/-! ROWS FOR WALKS ON THE SMALL MACHINE -/
section WK
variable {cs : Bool} {n L : Nat} {xs : Nat → Int32} {C : Nat → List aV → aM → Option aV → aM → Prop} {cd : Nat → Option aI} {Z : aS → Prop} {pc a b : Nat} {l : List (Option aV)} {st : List aV} {M : aM} {c : Prop} {i : Decidable c}
theorem G_is {S S' : aS} (h : S = S') (k : G_o cs n L xs C cd Z S') : G_o cs n L xs C cd Z S := by
  rw [h]
  exact k
theorem G_top {x y : Int32} (h : x = y) (k : G_o cs n L xs C cd Z (pc, l, .inl y :: st, M)) : G_o cs n L xs C cd Z (pc, l, .inl x :: st, M) := by
  rw [h]
  exact k
theorem G_iT (h : c) (k : G_o cs n L xs C cd Z (a, l, st, M)) : G_o cs n L xs C cd Z (@ite Nat c i a b, l, st, M) := by
  rw [if_pos h]
  exact k
theorem G_iF (h : ¬ c) (k : G_o cs n L xs C cd Z (b, l, st, M)) : G_o cs n L xs C cd Z (@ite Nat c i a b, l, st, M) := by
  rw [if_neg h]
  exact k
theorem G_ifn {i : Decidable (¬ c)} (h1 : ¬ c → G_o cs n L xs C cd Z (a, l, st, M)) (h2 : c → G_o cs n L xs C cd Z (b, l, st, M)) : G_o cs n L xs C cd Z (@ite Nat (¬ c) i a b, l, st, M) := by
  by_cases h : c
  · rw [if_neg (fun z => z h)]
    exact h2 h
  · rw [if_pos h]
    exact h1 h
theorem G_nT {i : Decidable (¬ c)} (h : ¬ c) (k : G_o cs n L xs C cd Z (a, l, st, M)) : G_o cs n L xs C cd Z (@ite Nat (¬ c) i a b, l, st, M) := by
  rw [if_pos h]
  exact k
theorem G_nF {i : Decidable (¬ c)} (h : c) (k : G_o cs n L xs C cd Z (b, l, st, M)) : G_o cs n L xs C cd Z (@ite Nat (¬ c) i a b, l, st, M) := by
  rw [if_neg (fun z => z h)]
  exact k
theorem G_fin {S : aS} {y y' : Option aV} {M1 M' : aM} (hr : r_F cd S = some (true, y', M')) (hy : y' = y) (hM : M' = M1) : G_o cs n L xs C cd (fun S1 => r_F cd S1 = some (true, y, M1)) S := by
  subst hy
  subst hM
  exact G_end hr
theorem G_loop {S : Nat → aS} {N : Nat} (h : ∀ k, k < N → G_o cs n L xs C cd Z (S (k + 1)) → G_o cs n L xs C cd Z (S k)) (hN : G_o cs n L xs C cd Z (S N)) : G_o cs n L xs C cd Z (S 0) := by
  have : ∀ j, j ≤ N → G_o cs n L xs C cd Z (S (N - j)) := by
    intro j
    induction j with
    | zero => exact fun _ => hN
    | succ j ih =>
      intro hj
      refine h (N - (j + 1)) (by omega) ?_
      rw [show N - (j + 1) + 1 = N - j by omega]
      exact ih (by omega)
  have h0 := this N (Nat.le_refl _)
  rwa [Nat.sub_self] at h0
end WK
theorem E_mk {n L d mj : Nat} {xs : Nat → Int32} {cdl : List (Nat × aI)} {av : List aV} {M M1 : aM} {y : Option aV} {cs : Bool} (h : m_C mj = l_k cdl) (hm : mj < m_N) (k : G_o cs n L xs (E_v cs n L xs d) (l_k cdl) (fun S1 => r_F (l_k cdl) S1 = some (true, y, M1)) (0, i_L mj av, [], M)) : E_v cs n L xs (d + 1) mj av M y M1 := by
  refine ⟨hm, ?_⟩
  rw [h]
  exact k
theorem ix_nI {j : Nat} (h : j < 2147483648) : ix (nI j) = j := nI_clamp h
theorem ib_nI {j len : Nat} (h : j < len) (hl : len ≤ 100) : i_b (nI j) len = true := by
  unfold i_b
  rw [ix_nI (by omega)]
  simp only [Bool.and_eq_true, decide_eq_true_eq]
  exact ⟨nI_pos' (by omega), h⟩
theorem ib_b {x y : Int32} {len : Nat} (h : i_b x len = true) (hy : b_01 y = true) : (i_b x len && b_01 y) = true := by
  rw [h, hy]
  rfl
theorem M_1 {v w u : mV} {c : Nat} (h : v = w) : ((v, u, c) : aM) = (w, u, c) := by rw [h]
theorem M_2 {v u w : mV} {c : Nat} (h : u = w) : ((v, u, c) : aM) = (v, w, c) := by rw [h]
theorem K_node : ∀ n, n < 7 → ∀ a, a < n → (4, a) ∈ K_T n := by decide +kernel
theorem K_msg : ∀ n, n < 7 → ∀ a, a < 25 → (12, a) ∈ K_T n := by decide +kernel
/-- what reading a node out of the array of nodes asks -/
theorem ald_n {n a c : Nat} {z : Int32} (hn : n ≤ 6) (ha : a < n) (hc : c = (K_T n).length) : (i_b (nI a) n && ((!false || z == 0) && decide ((4, ix (nI a)) ∈ (K_T n).take c))) = true := by
  rw [ib_nI ha (by omega), ix_nI (by omega), hc, List.take_length]
  simp [K_node n (by omega) a ha]
