/-! ROWS FOR WALKS ON THE SMALL MACHINE -/
section WK
variable {cs : Bool} {n L : Nat} {xs : Nat → Int32} {C : Nat → List aV → aM → Option aV → aM → Prop} {cd : Nat → Option aI} {Z : aS → Prop} {pc a b : Nat} {l : List (Option aV)} {st : List aV} {M : aM} {c : Prop} {i : Decidable c}
theorem G_is {S S' : aS} (h : S = S') (k : G_o cs n L xs C cd Z S') : G_o cs n L xs C cd Z S := by
  rw [h]
  exact k
theorem G_top {x y : Int32} (h : x = y) (k : G_o cs n L xs C cd Z (pc, l, .inl y :: st, M)) : G_o cs n L xs C cd Z (pc, l, .inl x :: st, M) := by
  rw [h]
  exact k
theorem G_iT (h : c) (k : G_o cs n L xs C cd Z (a, l, st, M)) : G_o cs n L xs C cd Z (@ite Nat c i a b, l, st, M) := by
  rw [if_pos h]
  exact k
theorem G_iF (h : ¬ c) (k : G_o cs n L xs C cd Z (b, l, st, M)) : G_o cs n L xs C cd Z (@ite Nat c i a b, l, st, M) := by
  rw [if_neg h]
  exact k
theorem G_ifn {i : Decidable (¬ c)} (h1 : ¬ c → G_o cs n L xs C cd Z (a, l, st, M)) (h2 : c → G_o cs n L xs C cd Z (b, l, st, M)) : G_o cs n L xs C cd Z (@ite Nat (¬ c) i a b, l, st, M) := by
  by_cases h : c
  · rw [if_neg (fun z => z h)]
    exact h2 h
  · rw [if_pos h]
    exact h1 h
theorem G_nT {i : Decidable (¬ c)} (h : ¬ c) (k : G_o cs n L xs C cd Z (a, l, st, M)) : G_o cs n L xs C cd Z (@ite Nat (¬ c) i a b, l, st, M) := by
  rw [if_pos h]
  exact k
theorem G_nF {i : Decidable (¬ c)} (h : c) (k : G_o cs n L xs C cd Z (b, l, st, M)) : G_o cs n L xs C cd Z (@ite Nat (¬ c) i a b, l, st, M) := by
  rw [if_neg (fun z => z h)]
  exact k
theorem G_fin {S : aS} {y y' : Option aV} {M1 M' : aM} (hr : r_F cd S = some (true, y', M')) (hy : y' = y) (hM : M' = M1) : G_o cs n L xs C cd (fun S1 => r_F cd S1 = some (true, y, M1)) S := by
  subst hy
  subst hM
  exact G_end hr
theorem G_loop {S : Nat → aS} {N : Nat} (h : ∀ k, k < N → G_o cs n L xs C cd Z (S (k + 1)) → G_o cs n L xs C cd Z (S k)) (hN : G_o cs n L xs C cd Z (S N)) : G_o cs n L xs C cd Z (S 0) := by
  have : ∀ j, j ≤ N → G_o cs n L xs C cd Z (S (N - j)) := by
    intro j
    induction j with
    | zero => exact fun _ => hN
    | succ j ih =>
      intro hj
      refine h (N - (j + 1)) (by omega) ?_
      rw [show N - (j + 1) + 1 = N - j by omega]
      exact ih (by omega)
  have h0 := this N (Nat.le_refl _)
  rwa [Nat.sub_self] at h0
end WK
theorem E_mk {n L d mj : Nat} {xs : Nat → Int32} {cdl : List (Nat × aI)} {av : List aV} {M M1 : aM} {y : Option aV} {cs : Bool} (h : m_C mj = l_k cdl) (hm : mj < m_N) (k : G_o cs n L xs (E_v cs n L xs d) (l_k cdl) (fun S1 => r_F (l_k cdl) S1 = some (true, y, M1)) (0, i_L mj av, [], M)) : E_v cs n L xs (d + 1) mj av M y M1 := by
  refine ⟨hm, ?_⟩
  rw [h]
  exact k
theorem ix_nI {j : Nat} (h : j < 2147483648) : ix (nI j) = j := nI_clamp h
theorem ib_nI {j len : Nat} (h : j < len) (hl : len ≤ 100) : i_b (nI j) len = true := by
  unfold i_b
  rw [ix_nI (by omega)]
  simp only [Bool.and_eq_true, decide_eq_true_eq]
  exact ⟨nI_pos' (by omega), h⟩
theorem ib_b {x y : Int32} {len : Nat} (h : i_b x len = true) (hy : b_01 y = true) : (i_b x len && b_01 y) = true := by
  rw [h, hy]
  rfl
theorem M_1 {v w u : mV} {c : Nat} (h : v = w) : ((v, u, c) : aM) = (w, u, c) := by rw [h]
theorem M_2 {v u w : mV} {c : Nat} (h : u = w) : ((v, u, c) : aM) = (v, w, c) := by rw [h]
theorem K_node : ∀ n, n < 7 → ∀ a, a < n → (4, a) ∈ K_T n := by decide +kernel
theorem K_msg : ∀ n, n < 7 → ∀ a, a < 25 → (12, a) ∈ K_T n := by decide +kernel
/-- what reading a node out of the array of nodes asks -/
theorem ald_n {n a c : Nat} {z : Int32} (hn : n ≤ 6) (ha : a < n) (hc : c = (K_T n).length) : (i_b (nI a) n && ((!false || z == 0) && decide ((4, ix (nI a)) ∈ (K_T n).take c))) = true := by
  rw [ib_nI ha (by omega), ix_nI (by omega), hc, List.take_length]
  simp [K_node n (by omega) a ha]
theorem nI_inj' {a b : Nat} (ha : a < 2147483648) (hb : b < 2147483648) : nI a = nI b ↔ a = b := by
  constructor
  · intro h
    have h1 := congrArg ix h
    rwa [ix_nI ha, ix_nI hb] at h1
  · intro h
    rw [h]
theorem nI_le' {a b : Nat} (ha : a < 2147483648) (hb : b < 2147483648) : nI a ≤ nI b ↔ a ≤ b := by
  constructor
  · intro h
    rcases Nat.lt_or_ge b a with z | z
    · exact absurd h (nI_ge z ha)
    · exact z
  · exact fun h => nI_le h hb
theorem nI_lt' {a b : Nat} (ha : a < 2147483648) (hb : b < 2147483648) : nI a < nI b ↔ a < b := by
  constructor
  · intro h
    rcases Nat.lt_or_ge a b with z | z
    · exact z
    · exact absurd h (nI_nlt z ha)
  · exact fun h => nI_lt h hb
theorem nI_m1 {a : Nat} (ha : a < 2147483648) : ¬ nI a = -1 := by
  intro h
  have h1 := nI_pos' ha
  rw [h] at h1
  exact absurd h1 (by decide)
def oI : Option Nat → Int32
  | none => -1
  | some t => nI t
def F_n (n : Nat) (v : mV) : Prop := v 0 0 0 = nI n ∧ ∀ a, a < n → v 4 a 0 = nI a ∧ v 4 a 1 = nI n
theorem fn_u3 {n k i j : Nat} {x : Int32} {v : mV} (h : F_n n v) (hk : Nat.beq k 0 = false) (hj : (Nat.beq k 4 && Nat.ble j 1) = false) : F_n n (m_u3 v k i j x) := by
  have hk' : ¬ 0 = k := by
    intro z
    subst z
    cases hk
  have hj' : ∀ q, q ≤ 1 → ¬ (4 = k ∧ q = j) := by
    rintro q hq ⟨rfl, rfl⟩
    rw [Nat.ble_eq_true_of_le hq] at hj
    cases hj
  refine ⟨?_, fun a ha => ⟨?_, ?_⟩⟩
  · unfold m_u3
    rw [if_neg (fun z => hk' z.1)]
    exact h.1
  · unfold m_u3
    rw [if_neg (fun z => hj' 0 (by omega) ⟨z.1, z.2.1⟩)]
    exact (h.2 a ha).1
  · unfold m_u3
    rw [if_neg (fun z => hj' 1 (by omega) ⟨z.1, z.2.1⟩)]
    exact (h.2 a ha).2
/-- a read behind a write elsewhere -/
theorem u3_k {v : mV} {k i j : Nat} {x : Int32} {k' : Nat} (h : Nat.beq k' k = false) : m_u3 v k i j x k' = v k' := by
  funext i' j'
  unfold m_u3
  rw [if_neg]
  rintro ⟨z, -⟩
  rw [z, Nat.beq_refl] at h
  cases h
theorem u3_s {v : mV} {k i j : Nat} {x : Int32} : m_u3 v k i j x k i j = x := by
  unfold m_u3
  rw [if_pos ⟨rfl, rfl, rfl⟩]
theorem u3_n {v : mV} {k i j : Nat} {x : Int32} {k' i' j' : Nat} (h : ¬ (k' = k ∧ j' = j ∧ i' = i)) : m_u3 v k i j x k' i' j' = v k' i' j' := by
  unfold m_u3
  rw [if_neg h]
theorem ald_n' {n a c : Nat} {b : Bool} (hn : n ≤ 6) (ha : a < n) (hc : c = (K_T n).length) : (i_b (nI a) n && ((!false || b) && decide ((4, ix (nI a)) ∈ (K_T n).take c))) = true := by
  rw [ib_nI ha (by omega), ix_nI (by omega), hc, List.take_length]
  simp [K_node n (by omega) a ha]
theorem ald_m {n z q c : Nat} {v : mV} {b : Bool} (hn : n ≤ 6) (hz : z < 25) (hq : v 3 0 z = nI q) (hq2 : q < 25) (hc : c = (K_T n).length) : (i_b (nI z) 25 && ((!false || b) && decide ((12, ix (v 3 0 (ix (nI z)))) ∈ (K_T n).take c))) = true := by
  rw [ib_nI hz (by omega), ix_nI (j := z) (by omega), hq, ix_nI (by omega), hc, List.take_length]
  simp [K_msg n (by omega) q hq2]
theorem ast_m {i q : Nat} (hi : i < 25) (hq : q < 25) : (i_b (nI i) 25 && (Nat.beq 12 12 && Nat.ble q 24)) = true := by
  rw [ib_nI hi (by omega), Nat.ble_eq_true_of_le (by omega : q ≤ 24)]
  rfl
