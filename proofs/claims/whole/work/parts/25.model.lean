set_option maxRecDepth 100000 in
theorem e_m_deliver0 (d : Nat) {n L : Nat} {xs : Nat → Int32} {v u : mV} {c : Nat} {x : Int32} (hn : n ≤ 6) (hw : W_M n u) (hx : x < 0 ∨ ¬ x < nI (rw_ u)) : E_v false n L xs (d + 1) 50 [Sum.inr (Sum.inl (20, 0)), Sum.inl x] (v, u, c) (some (Sum.inl (-1))) (v, u, c) := by
  refine E_mk mc_50 (by decide) ?_
  refine G_steps 2 (S1 := (if x < 0 then 12 else 4, [some (Sum.inr (Sum.inl (20, 0))), some (Sum.inl x), none], [], (v, u, c))) rfl rfl ?_
  refine G_if (fun h1 => ?_) (fun h1 => ?_)
  · skip
    refine G_steps 1 (S1 := (13, [some (Sum.inr (Sum.inl (20, 0))), some (Sum.inl x), none], [Sum.inl (-1)], (v, u, c))) rfl rfl ?_
    exact G_fin rfl rfl rfl
  · skip
    refine G_steps 3 (S1 := (9, [some (Sum.inr (Sum.inl (20, 0))), some (Sum.inl x), none], [Sum.inl (u 20 0 13), Sum.inl x], (v, u, c))) rfl rfl ?_
    refine G_top hw.2.1 ?_
    refine G_steps 1 (S1 := (if x < nI (rw_ u) then 14 else 12, [some (Sum.inr (Sum.inl (20, 0))), some (Sum.inl x), none], [], (v, u, c))) rfl rfl ?_
    refine G_if (fun h2 => ?_) (fun h2 => ?_)
    · skip
      exact absurd hx (fun z => z.elim h1 (fun q => q h2))
    · skip
      refine G_steps 1 (S1 := (13, [some (Sum.inr (Sum.inl (20, 0))), some (Sum.inl x), none], [Sum.inl (-1)], (v, u, c))) rfl rfl ?_
      exact G_fin rfl rfl rfl
set_option maxRecDepth 100000 in
theorem e_m_deliver1 (d : Nat) {n L : Nat} {xs : Nat → Int32} {v u : mV} {c : Nat} {k : Nat} (hn : n ≤ 6) (hw : W_M n u) (hk : k < rw_ u) (h24 : M_24 n (d_to u k (rw_ u - 1))) : E_v false n L xs (d + 4) 50 [Sum.inr (Sum.inl (20, 0)), Sum.inl (nI k)] (v, u, c) (some (Sum.inl (u 33 0 k))) (v, d_arr n u k, c) := by
  refine E_mk mc_50 (by decide) ?_
  refine G_steps 2 (S1 := (if nI k < 0 then 12 else 4, [some (Sum.inr (Sum.inl (20, 0))), some (Sum.inl (nI k)), none], [], (v, u, c))) rfl rfl ?_
  refine G_iF (nI_pos (by have := hw.2.2; omega)) ?_
  refine G_steps 3 (S1 := (9, [some (Sum.inr (Sum.inl (20, 0))), some (Sum.inl (nI k)), none], [Sum.inl (u 20 0 13), Sum.inl (nI k)], (v, u, c))) rfl rfl ?_
  refine G_top hw.2.1 ?_
  refine G_steps 1 (S1 := (if nI k < nI (rw_ u) then 14 else 12, [some (Sum.inr (Sum.inl (20, 0))), some (Sum.inl (nI k)), none], [], (v, u, c))) rfl rfl ?_
  refine G_iT ((nI_lt' (by have := hw.2.2; omega) (by have := hw.2.2; omega)).mpr hk) ?_
  refine G_steps 3 (S1 := (19, [some (Sum.inr (Sum.inl (20, 0))), some (Sum.inl (nI k)), none], [Sum.inl (nI k), Sum.inr (Sum.inl (33, 0))], (v, u, c))) rfl rfl ?_
  refine G_step (S1 := (20, [some (Sum.inr (Sum.inl (20, 0))), some (Sum.inl (nI k)), none], [Sum.inl (u 33 0 (ix (nI k)))], (v, u, c))) rfl (ib_nI (j := k) (len := 25) (by have := hw.2.2; omega) (by omega)) ?_
  rw [ix_nI (j := k) (by have := hw.2.2; omega)]
  refine G_steps 3 (S1 := (23, [some (Sum.inr (Sum.inl (20, 0))), some (Sum.inl (nI k)), some (Sum.inl (u 33 0 k))], [Sum.inl (nI k), Sum.inr (Sum.inl (20, 0))], (v, u, c))) rfl rfl ?_
  refine G_call (y := none) (M1 := (v, d_arr n u k, c)) rfl rfl (e_m_arrive _ hn hw hk h24) ?_
  refine G_is (S' := (26, [some (Sum.inr (Sum.inl (20, 0))), some (Sum.inl (nI k)), some (Sum.inl (u 33 0 k))], [], (v, d_arr n u k, c))) rfl ?_
  refine G_steps 1 (S1 := (27, [some (Sum.inr (Sum.inl (20, 0))), some (Sum.inl (nI k)), some (Sum.inl (u 33 0 k))], [Sum.inl (u 33 0 k)], (v, d_arr n u k, c))) rfl rfl ?_
  exact G_fin rfl rfl rfl
set_option maxRecDepth 100000 in
theorem e_m_lose0 (d : Nat) {n L : Nat} {xs : Nat → Int32} {v u : mV} {c : Nat} {x : Int32} (hn : n ≤ 6) (hw : W_M n u) (hx : x < 0 ∨ ¬ x < nI (rw_ u)) : E_v false n L xs (d + 1) 61 [Sum.inr (Sum.inl (20, 0)), Sum.inl x] (v, u, c) (some (Sum.inl 0)) (v, u, c) := by
  refine E_mk mc_61 (by decide) ?_
  refine G_steps 2 (S1 := (if x < 0 then 12 else 4, [some (Sum.inr (Sum.inl (20, 0))), some (Sum.inl x)], [], (v, u, c))) rfl rfl ?_
  refine G_if (fun h1 => ?_) (fun h1 => ?_)
  · skip
    refine G_steps 1 (S1 := (13, [some (Sum.inr (Sum.inl (20, 0))), some (Sum.inl x)], [Sum.inl 0], (v, u, c))) rfl rfl ?_
    exact G_fin rfl rfl rfl
  · skip
    refine G_steps 3 (S1 := (9, [some (Sum.inr (Sum.inl (20, 0))), some (Sum.inl x)], [Sum.inl (u 20 0 13), Sum.inl x], (v, u, c))) rfl rfl ?_
    refine G_top hw.2.1 ?_
    refine G_steps 1 (S1 := (if x < nI (rw_ u) then 14 else 12, [some (Sum.inr (Sum.inl (20, 0))), some (Sum.inl x)], [], (v, u, c))) rfl rfl ?_
    refine G_if (fun h2 => ?_) (fun h2 => ?_)
    · skip
      exact absurd hx (fun z => z.elim h1 (fun q => q h2))
    · skip
      refine G_steps 1 (S1 := (13, [some (Sum.inr (Sum.inl (20, 0))), some (Sum.inl x)], [Sum.inl 0], (v, u, c))) rfl rfl ?_
      exact G_fin rfl rfl rfl
set_option maxRecDepth 100000 in
theorem e_m_lose1 (d : Nat) {n L : Nat} {xs : Nat → Int32} {v u : mV} {c : Nat} {k : Nat} (hn : n ≤ 6) (hw : W_M n u) (hk : k < rw_ u) (hr1 : u 20 0 13 = nI (rw_ u - 1 + 1)) : E_v false n L xs (d + 3) 61 [Sum.inr (Sum.inl (20, 0)), Sum.inl (nI k)] (v, u, c) (some (Sum.inl 1)) (v, d_to u k (rw_ u - 1), c) := by
  refine E_mk mc_61 (by decide) ?_
  refine G_steps 2 (S1 := (if nI k < 0 then 12 else 4, [some (Sum.inr (Sum.inl (20, 0))), some (Sum.inl (nI k))], [], (v, u, c))) rfl rfl ?_
  refine G_iF (nI_pos (by have := hw.2.2; omega)) ?_
  refine G_steps 3 (S1 := (9, [some (Sum.inr (Sum.inl (20, 0))), some (Sum.inl (nI k))], [Sum.inl (u 20 0 13), Sum.inl (nI k)], (v, u, c))) rfl rfl ?_
  refine G_top hw.2.1 ?_
  refine G_steps 1 (S1 := (if nI k < nI (rw_ u) then 14 else 12, [some (Sum.inr (Sum.inl (20, 0))), some (Sum.inl (nI k))], [], (v, u, c))) rfl rfl ?_
  refine G_iT ((nI_lt' (by have := hw.2.2; omega) (by have := hw.2.2; omega)).mpr hk) ?_
  refine G_steps 2 (S1 := (16, [some (Sum.inr (Sum.inl (20, 0))), some (Sum.inl (nI k))], [Sum.inl (nI k), Sum.inr (Sum.inl (20, 0))], (v, u, c))) rfl rfl ?_
  refine G_call (y := none) (M1 := (v, d_to u k (rw_ u - 1), c)) rfl rfl (e_m_takeOut _ hr1 (by omega) (by have := hw.2.2; omega)) ?_
  refine G_is (S' := (19, [some (Sum.inr (Sum.inl (20, 0))), some (Sum.inl (nI k))], [], (v, d_to u k (rw_ u - 1), c))) rfl ?_
  refine G_steps 1 (S1 := (20, [some (Sum.inr (Sum.inl (20, 0))), some (Sum.inl (nI k))], [Sum.inl 1], (v, d_to u k (rw_ u - 1), c))) rfl rfl ?_
  exact G_fin rfl rfl rfl
def d_st (u : mV) (a m : Nat) : Int32 := if nI a = nI m then 0 else u 22 0 (6 * a + m)
def d_tm (u : mV) (a m : Nat) : Int32 := if nI a = nI m then 0 else u 24 0 (6 * a + m)
def d_pr (u : mV) (a : Nat) : Int32 := if 0 ≤ u 31 0 a then (if u 32 0 a = 0 then u 31 0 a else u 31 0 a + 8) else -1
def d_se (u : mV) (a m : Nat) : Int32 := if u 25 0 (6 * a + m) = 0 then -1 else u 28 0 (6 * a + m)
def d_ms (u : mV) (k : Nat) : Int32 := u 33 0 k * 4096 + u 34 0 k * 512 + u 35 0 k * 64 + u 37 0 k * 8 + u 39 0 k
def d_nn (u : mV) (k j : Nat) : Int64 := (u 40 0 (2 * k + j)).toInt64 * (Int32.toInt64 4) + (u 41 0 (2 * k + j)).toInt64 + (u 42 0 (2 * k + j)).toInt64 * (Int32.toInt64 64)
def d_dc (u : mV) (m : Nat) : Nat → Nat
  | 0 => 0
  | k + 1 => if u 21 0 k = 0 then (if d_st u k m = 2 then d_dc u m k + 1 else d_dc u m k) else d_dc u m k
def d_d1 (u : mV) (a : Nat) : Nat → Nat
  | 0 => 0
  | m + 1 => if u 21 0 a = 0 then (if u 21 0 m = 0 then (if d_st u a m = 0 then d_d1 u a m else d_d1 u a m + 1) else d_d1 u a m) else d_d1 u a m
def d_d2 (n : Nat) (u : mV) : Nat → Nat
  | 0 => 0
  | a + 1 => d_d2 n u a + d_d1 u a n
set_option maxRecDepth 100000 in
theorem e_m_status0 (d : Nat) {n L : Nat} {xs : Nat → Int32} {v u : mV} {c : Nat} {x y : Int32} (hn : n ≤ 6) (hf : F_m n u) (hx : c_in n x = 0) : E_v false n L xs (d + 2) 73 [Sum.inr (Sum.inl (20, 0)), Sum.inl x, Sum.inl y] (v, u, c) (some (Sum.inl (-1))) (v, u, c) := by
  refine E_mk mc_73 (by decide) ?_
  refine G_steps 2 (S1 := (2, [some (Sum.inr (Sum.inl (20, 0))), some (Sum.inl x), some (Sum.inl y)], [Sum.inl x, Sum.inr (Sum.inl (20, 0))], (v, u, c))) rfl rfl ?_
  refine G_call (y := some (Sum.inl (c_in n x))) (M1 := (v, u, c)) rfl rfl (e_m_isNode _ hf) ?_
  refine G_is (S' := (5, [some (Sum.inr (Sum.inl (20, 0))), some (Sum.inl x), some (Sum.inl y)], [Sum.inl (c_in n x)], (v, u, c))) rfl ?_
  refine G_top hx ?_
  refine G_steps 1 (S1 := (if 0 = 0 then 16 else 8, [some (Sum.inr (Sum.inl (20, 0))), some (Sum.inl x), some (Sum.inl y)], [], (v, u, c))) rfl rfl ?_
  refine G_iT rfl ?_
  refine G_steps 2 (S1 := (40, [some (Sum.inr (Sum.inl (20, 0))), some (Sum.inl x), some (Sum.inl y)], [Sum.inl (-1)], (v, u, c))) rfl rfl ?_
  exact G_fin rfl rfl rfl
set_option maxRecDepth 100000 in
theorem e_m_status1 (d : Nat) {n L : Nat} {xs : Nat → Int32} {v u : mV} {c : Nat} {a : Nat} {y : Int32} (hn : n ≤ 6) (hf : F_m n u) (ha : a < n) (hy : c_in n y = 0) : E_v false n L xs (d + 2) 73 [Sum.inr (Sum.inl (20, 0)), Sum.inl (nI a), Sum.inl y] (v, u, c) (some (Sum.inl (-1))) (v, u, c) := by
  refine E_mk mc_73 (by decide) ?_
  refine G_steps 2 (S1 := (2, [some (Sum.inr (Sum.inl (20, 0))), some (Sum.inl (nI a)), some (Sum.inl y)], [Sum.inl (nI a), Sum.inr (Sum.inl (20, 0))], (v, u, c))) rfl rfl ?_
  refine G_call (y := some (Sum.inl (c_in n (nI a)))) (M1 := (v, u, c)) rfl rfl (e_m_isNode _ hf) ?_
  refine G_is (S' := (5, [some (Sum.inr (Sum.inl (20, 0))), some (Sum.inl (nI a)), some (Sum.inl y)], [Sum.inl (c_in n (nI a))], (v, u, c))) rfl ?_
  refine G_top (in_1 hn ha) ?_
  refine G_steps 1 (S1 := (if 1 = 0 then 16 else 8, [some (Sum.inr (Sum.inl (20, 0))), some (Sum.inl (nI a)), some (Sum.inl y)], [], (v, u, c))) rfl rfl ?_
  refine G_iF (by decide) ?_
  refine G_steps 2 (S1 := (10, [some (Sum.inr (Sum.inl (20, 0))), some (Sum.inl (nI a)), some (Sum.inl y)], [Sum.inl y, Sum.inr (Sum.inl (20, 0))], (v, u, c))) rfl rfl ?_
  refine G_call (y := some (Sum.inl (c_in n y))) (M1 := (v, u, c)) rfl rfl (e_m_isNode _ hf) ?_
  refine G_is (S' := (13, [some (Sum.inr (Sum.inl (20, 0))), some (Sum.inl (nI a)), some (Sum.inl y)], [Sum.inl (c_in n y)], (v, u, c))) rfl ?_
  refine G_top hy ?_
  refine G_steps 1 (S1 := (if ¬ 0 = 0 then 20 else 16, [some (Sum.inr (Sum.inl (20, 0))), some (Sum.inl (nI a)), some (Sum.inl y)], [], (v, u, c))) rfl rfl ?_
  refine G_nF rfl ?_
  refine G_steps 2 (S1 := (40, [some (Sum.inr (Sum.inl (20, 0))), some (Sum.inl (nI a)), some (Sum.inl y)], [Sum.inl (-1)], (v, u, c))) rfl rfl ?_
  exact G_fin rfl rfl rfl
set_option maxRecDepth 100000 in
theorem e_m_status2 (d : Nat) {n L : Nat} {xs : Nat → Int32} {v u : mV} {c : Nat} {a m : Nat} (hn : n ≤ 6) (hf : F_m n u) (ha : a < n) (hm : m < n) : E_v false n L xs (d + 2) 73 [Sum.inr (Sum.inl (20, 0)), Sum.inl (nI a), Sum.inl (nI m)] (v, u, c) (some (Sum.inl (d_st u a m))) (v, u, c) := by
  refine E_mk mc_73 (by decide) ?_
  refine G_steps 2 (S1 := (2, [some (Sum.inr (Sum.inl (20, 0))), some (Sum.inl (nI a)), some (Sum.inl (nI m))], [Sum.inl (nI a), Sum.inr (Sum.inl (20, 0))], (v, u, c))) rfl rfl ?_
  refine G_call (y := some (Sum.inl (c_in n (nI a)))) (M1 := (v, u, c)) rfl rfl (e_m_isNode _ hf) ?_
  refine G_is (S' := (5, [some (Sum.inr (Sum.inl (20, 0))), some (Sum.inl (nI a)), some (Sum.inl (nI m))], [Sum.inl (c_in n (nI a))], (v, u, c))) rfl ?_
  refine G_top (in_1 hn ha) ?_
  refine G_steps 1 (S1 := (if 1 = 0 then 16 else 8, [some (Sum.inr (Sum.inl (20, 0))), some (Sum.inl (nI a)), some (Sum.inl (nI m))], [], (v, u, c))) rfl rfl ?_
  refine G_iF (by decide) ?_
  refine G_steps 2 (S1 := (10, [some (Sum.inr (Sum.inl (20, 0))), some (Sum.inl (nI a)), some (Sum.inl (nI m))], [Sum.inl (nI m), Sum.inr (Sum.inl (20, 0))], (v, u, c))) rfl rfl ?_
  refine G_call (y := some (Sum.inl (c_in n (nI m)))) (M1 := (v, u, c)) rfl rfl (e_m_isNode _ hf) ?_
  refine G_is (S' := (13, [some (Sum.inr (Sum.inl (20, 0))), some (Sum.inl (nI a)), some (Sum.inl (nI m))], [Sum.inl (c_in n (nI m))], (v, u, c))) rfl ?_
  refine G_top (in_1 hn hm) ?_
  refine G_steps 1 (S1 := (if ¬ 1 = 0 then 20 else 16, [some (Sum.inr (Sum.inl (20, 0))), some (Sum.inl (nI a)), some (Sum.inl (nI m))], [], (v, u, c))) rfl rfl ?_
  refine G_nT (by decide) ?_
  refine G_steps 3 (S1 := (if ¬ nI a = nI m then 29 else 25, [some (Sum.inr (Sum.inl (20, 0))), some (Sum.inl (nI a)), some (Sum.inl (nI m))], [], (v, u, c))) rfl rfl ?_
  refine G_ifn (fun h1 => ?_) (fun h1 => ?_)
  · skip
    refine G_steps 5 (S1 := (37, [some (Sum.inr (Sum.inl (20, 0))), some (Sum.inl (nI a)), some (Sum.inl (nI m))], [Sum.inl (6 * (nI a)), Sum.inr (Sum.inl (22, 0))], (v, u, c))) rfl rfl ?_
    refine G_top (nI_mul 6 a) ?_
    refine G_steps 2 (S1 := (39, [some (Sum.inr (Sum.inl (20, 0))), some (Sum.inl (nI a)), some (Sum.inl (nI m))], [Sum.inl ((nI (6 * a)) + (nI m)), Sum.inr (Sum.inl (22, 0))], (v, u, c))) rfl rfl ?_
    refine G_top (nI_ad (6 * a) m) ?_
    refine G_step (S1 := (40, [some (Sum.inr (Sum.inl (20, 0))), some (Sum.inl (nI a)), some (Sum.inl (nI m))], [Sum.inl (u 22 0 (ix (nI (6 * a + m))))], (v, u, c))) rfl (ib_nI (j := (6 * a + m)) (len := 36) (by omega) (by omega)) ?_
    rw [ix_nI (j := (6 * a + m)) (by omega)]
    exact G_fin rfl (by simp only [d_st, if_neg h1]) rfl
  · skip
    refine G_steps 2 (S1 := (40, [some (Sum.inr (Sum.inl (20, 0))), some (Sum.inl (nI a)), some (Sum.inl (nI m))], [Sum.inl 0], (v, u, c))) rfl rfl ?_
    exact G_fin rfl (by simp only [d_st, if_pos h1]) rfl
set_option maxRecDepth 100000 in
theorem e_m_incarnation0 (d : Nat) {n L : Nat} {xs : Nat → Int32} {v u : mV} {c : Nat} {x y : Int32} (hn : n ≤ 6) (hf : F_m n u) (hx : c_in n x = 0) : E_v false n L xs (d + 2) 74 [Sum.inr (Sum.inl (20, 0)), Sum.inl x, Sum.inl y] (v, u, c) (some (Sum.inl (-1))) (v, u, c) := by
  refine E_mk mc_74 (by decide) ?_
  refine G_steps 2 (S1 := (2, [some (Sum.inr (Sum.inl (20, 0))), some (Sum.inl x), some (Sum.inl y)], [Sum.inl x, Sum.inr (Sum.inl (20, 0))], (v, u, c))) rfl rfl ?_
  refine G_call (y := some (Sum.inl (c_in n x))) (M1 := (v, u, c)) rfl rfl (e_m_isNode _ hf) ?_
  refine G_is (S' := (5, [some (Sum.inr (Sum.inl (20, 0))), some (Sum.inl x), some (Sum.inl y)], [Sum.inl (c_in n x)], (v, u, c))) rfl ?_
  refine G_top hx ?_
  refine G_steps 1 (S1 := (if 0 = 0 then 16 else 8, [some (Sum.inr (Sum.inl (20, 0))), some (Sum.inl x), some (Sum.inl y)], [], (v, u, c))) rfl rfl ?_
  refine G_iT rfl ?_
  refine G_steps 2 (S1 := (31, [some (Sum.inr (Sum.inl (20, 0))), some (Sum.inl x), some (Sum.inl y)], [Sum.inl (-1)], (v, u, c))) rfl rfl ?_
  exact G_fin rfl rfl rfl
set_option maxRecDepth 100000 in
theorem e_m_incarnation1 (d : Nat) {n L : Nat} {xs : Nat → Int32} {v u : mV} {c : Nat} {a : Nat} {y : Int32} (hn : n ≤ 6) (hf : F_m n u) (ha : a < n) (hy : c_in n y = 0) : E_v false n L xs (d + 2) 74 [Sum.inr (Sum.inl (20, 0)), Sum.inl (nI a), Sum.inl y] (v, u, c) (some (Sum.inl (-1))) (v, u, c) := by
  refine E_mk mc_74 (by decide) ?_
  refine G_steps 2 (S1 := (2, [some (Sum.inr (Sum.inl (20, 0))), some (Sum.inl (nI a)), some (Sum.inl y)], [Sum.inl (nI a), Sum.inr (Sum.inl (20, 0))], (v, u, c))) rfl rfl ?_
  refine G_call (y := some (Sum.inl (c_in n (nI a)))) (M1 := (v, u, c)) rfl rfl (e_m_isNode _ hf) ?_
  refine G_is (S' := (5, [some (Sum.inr (Sum.inl (20, 0))), some (Sum.inl (nI a)), some (Sum.inl y)], [Sum.inl (c_in n (nI a))], (v, u, c))) rfl ?_
  refine G_top (in_1 hn ha) ?_
  refine G_steps 1 (S1 := (if 1 = 0 then 16 else 8, [some (Sum.inr (Sum.inl (20, 0))), some (Sum.inl (nI a)), some (Sum.inl y)], [], (v, u, c))) rfl rfl ?_
  refine G_iF (by decide) ?_
  refine G_steps 2 (S1 := (10, [some (Sum.inr (Sum.inl (20, 0))), some (Sum.inl (nI a)), some (Sum.inl y)], [Sum.inl y, Sum.inr (Sum.inl (20, 0))], (v, u, c))) rfl rfl ?_
  refine G_call (y := some (Sum.inl (c_in n y))) (M1 := (v, u, c)) rfl rfl (e_m_isNode _ hf) ?_
  refine G_is (S' := (13, [some (Sum.inr (Sum.inl (20, 0))), some (Sum.inl (nI a)), some (Sum.inl y)], [Sum.inl (c_in n y)], (v, u, c))) rfl ?_
  refine G_top hy ?_
  refine G_steps 1 (S1 := (if ¬ 0 = 0 then 20 else 16, [some (Sum.inr (Sum.inl (20, 0))), some (Sum.inl (nI a)), some (Sum.inl y)], [], (v, u, c))) rfl rfl ?_
  refine G_nF rfl ?_
  refine G_steps 2 (S1 := (31, [some (Sum.inr (Sum.inl (20, 0))), some (Sum.inl (nI a)), some (Sum.inl y)], [Sum.inl (-1)], (v, u, c))) rfl rfl ?_
  exact G_fin rfl rfl rfl
set_option maxRecDepth 100000 in
theorem e_m_incarnation2 (d : Nat) {n L : Nat} {xs : Nat → Int32} {v u : mV} {c : Nat} {a m : Nat} (hn : n ≤ 6) (hf : F_m n u) (ha : a < n) (hm : m < n) : E_v false n L xs (d + 2) 74 [Sum.inr (Sum.inl (20, 0)), Sum.inl (nI a), Sum.inl (nI m)] (v, u, c) (some (Sum.inl (u 23 0 (6 * a + m)))) (v, u, c) := by
  refine E_mk mc_74 (by decide) ?_
  refine G_steps 2 (S1 := (2, [some (Sum.inr (Sum.inl (20, 0))), some (Sum.inl (nI a)), some (Sum.inl (nI m))], [Sum.inl (nI a), Sum.inr (Sum.inl (20, 0))], (v, u, c))) rfl rfl ?_
  refine G_call (y := some (Sum.inl (c_in n (nI a)))) (M1 := (v, u, c)) rfl rfl (e_m_isNode _ hf) ?_
  refine G_is (S' := (5, [some (Sum.inr (Sum.inl (20, 0))), some (Sum.inl (nI a)), some (Sum.inl (nI m))], [Sum.inl (c_in n (nI a))], (v, u, c))) rfl ?_
  refine G_top (in_1 hn ha) ?_
  refine G_steps 1 (S1 := (if 1 = 0 then 16 else 8, [some (Sum.inr (Sum.inl (20, 0))), some (Sum.inl (nI a)), some (Sum.inl (nI m))], [], (v, u, c))) rfl rfl ?_
  refine G_iF (by decide) ?_
  refine G_steps 2 (S1 := (10, [some (Sum.inr (Sum.inl (20, 0))), some (Sum.inl (nI a)), some (Sum.inl (nI m))], [Sum.inl (nI m), Sum.inr (Sum.inl (20, 0))], (v, u, c))) rfl rfl ?_
  refine G_call (y := some (Sum.inl (c_in n (nI m)))) (M1 := (v, u, c)) rfl rfl (e_m_isNode _ hf) ?_
  refine G_is (S' := (13, [some (Sum.inr (Sum.inl (20, 0))), some (Sum.inl (nI a)), some (Sum.inl (nI m))], [Sum.inl (c_in n (nI m))], (v, u, c))) rfl ?_
  refine G_top (in_1 hn hm) ?_
  refine G_steps 1 (S1 := (if ¬ 1 = 0 then 20 else 16, [some (Sum.inr (Sum.inl (20, 0))), some (Sum.inl (nI a)), some (Sum.inl (nI m))], [], (v, u, c))) rfl rfl ?_
  refine G_nT (by decide) ?_
  refine G_steps 5 (S1 := (28, [some (Sum.inr (Sum.inl (20, 0))), some (Sum.inl (nI a)), some (Sum.inl (nI m))], [Sum.inl (6 * (nI a)), Sum.inr (Sum.inl (23, 0))], (v, u, c))) rfl rfl ?_
  refine G_top (nI_mul 6 a) ?_
  refine G_steps 2 (S1 := (30, [some (Sum.inr (Sum.inl (20, 0))), some (Sum.inl (nI a)), some (Sum.inl (nI m))], [Sum.inl ((nI (6 * a)) + (nI m)), Sum.inr (Sum.inl (23, 0))], (v, u, c))) rfl rfl ?_
  refine G_top (nI_ad (6 * a) m) ?_
  refine G_step (S1 := (31, [some (Sum.inr (Sum.inl (20, 0))), some (Sum.inl (nI a)), some (Sum.inl (nI m))], [Sum.inl (u 23 0 (ix (nI (6 * a + m))))], (v, u, c))) rfl (ib_nI (j := (6 * a + m)) (len := 36) (by omega) (by omega)) ?_
  rw [ix_nI (j := (6 * a + m)) (by omega)]
  exact G_fin rfl rfl rfl
set_option maxRecDepth 100000 in
theorem e_m_timer0 (d : Nat) {n L : Nat} {xs : Nat → Int32} {v u : mV} {c : Nat} {x y : Int32} (hn : n ≤ 6) (hf : F_m n u) (hx : c_in n x = 0) : E_v false n L xs (d + 2) 75 [Sum.inr (Sum.inl (20, 0)), Sum.inl x, Sum.inl y] (v, u, c) (some (Sum.inl 0)) (v, u, c) := by
  refine E_mk mc_75 (by decide) ?_
  refine G_steps 2 (S1 := (2, [some (Sum.inr (Sum.inl (20, 0))), some (Sum.inl x), some (Sum.inl y)], [Sum.inl x, Sum.inr (Sum.inl (20, 0))], (v, u, c))) rfl rfl ?_
  refine G_call (y := some (Sum.inl (c_in n x))) (M1 := (v, u, c)) rfl rfl (e_m_isNode _ hf) ?_
  refine G_is (S' := (5, [some (Sum.inr (Sum.inl (20, 0))), some (Sum.inl x), some (Sum.inl y)], [Sum.inl (c_in n x)], (v, u, c))) rfl ?_
  refine G_top hx ?_
  refine G_steps 1 (S1 := (if 0 = 0 then 21 else 8, [some (Sum.inr (Sum.inl (20, 0))), some (Sum.inl x), some (Sum.inl y)], [], (v, u, c))) rfl rfl ?_
  refine G_iT rfl ?_
  refine G_steps 2 (S1 := (36, [some (Sum.inr (Sum.inl (20, 0))), some (Sum.inl x), some (Sum.inl y)], [Sum.inl 0], (v, u, c))) rfl rfl ?_
  exact G_fin rfl rfl rfl
set_option maxRecDepth 100000 in
theorem e_m_timer1 (d : Nat) {n L : Nat} {xs : Nat → Int32} {v u : mV} {c : Nat} {a : Nat} {y : Int32} (hn : n ≤ 6) (hf : F_m n u) (ha : a < n) (hy : c_in n y = 0) : E_v false n L xs (d + 2) 75 [Sum.inr (Sum.inl (20, 0)), Sum.inl (nI a), Sum.inl y] (v, u, c) (some (Sum.inl 0)) (v, u, c) := by
  refine E_mk mc_75 (by decide) ?_
  refine G_steps 2 (S1 := (2, [some (Sum.inr (Sum.inl (20, 0))), some (Sum.inl (nI a)), some (Sum.inl y)], [Sum.inl (nI a), Sum.inr (Sum.inl (20, 0))], (v, u, c))) rfl rfl ?_
  refine G_call (y := some (Sum.inl (c_in n (nI a)))) (M1 := (v, u, c)) rfl rfl (e_m_isNode _ hf) ?_
  refine G_is (S' := (5, [some (Sum.inr (Sum.inl (20, 0))), some (Sum.inl (nI a)), some (Sum.inl y)], [Sum.inl (c_in n (nI a))], (v, u, c))) rfl ?_
  refine G_top (in_1 hn ha) ?_
  refine G_steps 1 (S1 := (if 1 = 0 then 21 else 8, [some (Sum.inr (Sum.inl (20, 0))), some (Sum.inl (nI a)), some (Sum.inl y)], [], (v, u, c))) rfl rfl ?_
  refine G_iF (by decide) ?_
  refine G_steps 2 (S1 := (10, [some (Sum.inr (Sum.inl (20, 0))), some (Sum.inl (nI a)), some (Sum.inl y)], [Sum.inl y, Sum.inr (Sum.inl (20, 0))], (v, u, c))) rfl rfl ?_
  refine G_call (y := some (Sum.inl (c_in n y))) (M1 := (v, u, c)) rfl rfl (e_m_isNode _ hf) ?_
  refine G_is (S' := (13, [some (Sum.inr (Sum.inl (20, 0))), some (Sum.inl (nI a)), some (Sum.inl y)], [Sum.inl (c_in n y)], (v, u, c))) rfl ?_
  refine G_top hy ?_
  refine G_steps 1 (S1 := (if 0 = 0 then 21 else 16, [some (Sum.inr (Sum.inl (20, 0))), some (Sum.inl (nI a)), some (Sum.inl y)], [], (v, u, c))) rfl rfl ?_
  refine G_iT rfl ?_
  refine G_steps 2 (S1 := (36, [some (Sum.inr (Sum.inl (20, 0))), some (Sum.inl (nI a)), some (Sum.inl y)], [Sum.inl 0], (v, u, c))) rfl rfl ?_
  exact G_fin rfl rfl rfl
set_option maxRecDepth 100000 in
theorem e_m_timer2 (d : Nat) {n L : Nat} {xs : Nat → Int32} {v u : mV} {c : Nat} {a m : Nat} (hn : n ≤ 6) (hf : F_m n u) (ha : a < n) (hm : m < n) : E_v false n L xs (d + 2) 75 [Sum.inr (Sum.inl (20, 0)), Sum.inl (nI a), Sum.inl (nI m)] (v, u, c) (some (Sum.inl (d_tm u a m))) (v, u, c) := by
  refine E_mk mc_75 (by decide) ?_
  refine G_steps 2 (S1 := (2, [some (Sum.inr (Sum.inl (20, 0))), some (Sum.inl (nI a)), some (Sum.inl (nI m))], [Sum.inl (nI a), Sum.inr (Sum.inl (20, 0))], (v, u, c))) rfl rfl ?_
  refine G_call (y := some (Sum.inl (c_in n (nI a)))) (M1 := (v, u, c)) rfl rfl (e_m_isNode _ hf) ?_
  refine G_is (S' := (5, [some (Sum.inr (Sum.inl (20, 0))), some (Sum.inl (nI a)), some (Sum.inl (nI m))], [Sum.inl (c_in n (nI a))], (v, u, c))) rfl ?_
  refine G_top (in_1 hn ha) ?_
  refine G_steps 1 (S1 := (if 1 = 0 then 21 else 8, [some (Sum.inr (Sum.inl (20, 0))), some (Sum.inl (nI a)), some (Sum.inl (nI m))], [], (v, u, c))) rfl rfl ?_
  refine G_iF (by decide) ?_
  refine G_steps 2 (S1 := (10, [some (Sum.inr (Sum.inl (20, 0))), some (Sum.inl (nI a)), some (Sum.inl (nI m))], [Sum.inl (nI m), Sum.inr (Sum.inl (20, 0))], (v, u, c))) rfl rfl ?_
  refine G_call (y := some (Sum.inl (c_in n (nI m)))) (M1 := (v, u, c)) rfl rfl (e_m_isNode _ hf) ?_
  refine G_is (S' := (13, [some (Sum.inr (Sum.inl (20, 0))), some (Sum.inl (nI a)), some (Sum.inl (nI m))], [Sum.inl (c_in n (nI m))], (v, u, c))) rfl ?_
  refine G_top (in_1 hn hm) ?_
  refine G_steps 1 (S1 := (if 1 = 0 then 21 else 16, [some (Sum.inr (Sum.inl (20, 0))), some (Sum.inl (nI a)), some (Sum.inl (nI m))], [], (v, u, c))) rfl rfl ?_
  refine G_iF (by decide) ?_
  refine G_steps 3 (S1 := (if ¬ nI a = nI m then 25 else 21, [some (Sum.inr (Sum.inl (20, 0))), some (Sum.inl (nI a)), some (Sum.inl (nI m))], [], (v, u, c))) rfl rfl ?_
  refine G_ifn (fun h1 => ?_) (fun h1 => ?_)
  · skip
    refine G_steps 5 (S1 := (33, [some (Sum.inr (Sum.inl (20, 0))), some (Sum.inl (nI a)), some (Sum.inl (nI m))], [Sum.inl (6 * (nI a)), Sum.inr (Sum.inl (24, 0))], (v, u, c))) rfl rfl ?_
    refine G_top (nI_mul 6 a) ?_
    refine G_steps 2 (S1 := (35, [some (Sum.inr (Sum.inl (20, 0))), some (Sum.inl (nI a)), some (Sum.inl (nI m))], [Sum.inl ((nI (6 * a)) + (nI m)), Sum.inr (Sum.inl (24, 0))], (v, u, c))) rfl rfl ?_
    refine G_top (nI_ad (6 * a) m) ?_
    refine G_step (S1 := (36, [some (Sum.inr (Sum.inl (20, 0))), some (Sum.inl (nI a)), some (Sum.inl (nI m))], [Sum.inl (u 24 0 (ix (nI (6 * a + m))))], (v, u, c))) rfl (ib_nI (j := (6 * a + m)) (len := 36) (by omega) (by omega)) ?_
    rw [ix_nI (j := (6 * a + m)) (by omega)]
    exact G_fin rfl (by simp only [d_tm, if_neg h1]) rfl
  · skip
    refine G_steps 2 (S1 := (36, [some (Sum.inr (Sum.inl (20, 0))), some (Sum.inl (nI a)), some (Sum.inl (nI m))], [Sum.inl 0], (v, u, c))) rfl rfl ?_
    exact G_fin rfl (by simp only [d_tm, if_pos h1]) rfl
set_option maxRecDepth 100000 in
theorem e_m_sent0 (d : Nat) {n L : Nat} {xs : Nat → Int32} {v u : mV} {c : Nat} {x y : Int32} (hn : n ≤ 6) (hf : F_m n u) (hx : c_in n x = 0) : E_v false n L xs (d + 2) 77 [Sum.inr (Sum.inl (20, 0)), Sum.inl x, Sum.inl y] (v, u, c) (some (Sum.inl (-1))) (v, u, c) := by
  refine E_mk mc_77 (by decide) ?_
  refine G_steps 2 (S1 := (2, [some (Sum.inr (Sum.inl (20, 0))), some (Sum.inl x), some (Sum.inl y)], [Sum.inl x, Sum.inr (Sum.inl (20, 0))], (v, u, c))) rfl rfl ?_
  refine G_call (y := some (Sum.inl (c_in n x))) (M1 := (v, u, c)) rfl rfl (e_m_isNode _ hf) ?_
  refine G_is (S' := (5, [some (Sum.inr (Sum.inl (20, 0))), some (Sum.inl x), some (Sum.inl y)], [Sum.inl (c_in n x)], (v, u, c))) rfl ?_
  refine G_top hx ?_
  refine G_steps 1 (S1 := (if 0 = 0 then 30 else 8, [some (Sum.inr (Sum.inl (20, 0))), some (Sum.inl x), some (Sum.inl y)], [], (v, u, c))) rfl rfl ?_
  refine G_iT rfl ?_
  refine G_steps 2 (S1 := (45, [some (Sum.inr (Sum.inl (20, 0))), some (Sum.inl x), some (Sum.inl y)], [Sum.inl (-1)], (v, u, c))) rfl rfl ?_
  exact G_fin rfl rfl rfl
set_option maxRecDepth 100000 in
theorem e_m_sent1 (d : Nat) {n L : Nat} {xs : Nat → Int32} {v u : mV} {c : Nat} {a : Nat} {y : Int32} (hn : n ≤ 6) (hf : F_m n u) (ha : a < n) (hy : c_in n y = 0) : E_v false n L xs (d + 2) 77 [Sum.inr (Sum.inl (20, 0)), Sum.inl (nI a), Sum.inl y] (v, u, c) (some (Sum.inl (-1))) (v, u, c) := by
  refine E_mk mc_77 (by decide) ?_
  refine G_steps 2 (S1 := (2, [some (Sum.inr (Sum.inl (20, 0))), some (Sum.inl (nI a)), some (Sum.inl y)], [Sum.inl (nI a), Sum.inr (Sum.inl (20, 0))], (v, u, c))) rfl rfl ?_
  refine G_call (y := some (Sum.inl (c_in n (nI a)))) (M1 := (v, u, c)) rfl rfl (e_m_isNode _ hf) ?_
  refine G_is (S' := (5, [some (Sum.inr (Sum.inl (20, 0))), some (Sum.inl (nI a)), some (Sum.inl y)], [Sum.inl (c_in n (nI a))], (v, u, c))) rfl ?_
  refine G_top (in_1 hn ha) ?_
  refine G_steps 1 (S1 := (if 1 = 0 then 30 else 8, [some (Sum.inr (Sum.inl (20, 0))), some (Sum.inl (nI a)), some (Sum.inl y)], [], (v, u, c))) rfl rfl ?_
  refine G_iF (by decide) ?_
  refine G_steps 2 (S1 := (10, [some (Sum.inr (Sum.inl (20, 0))), some (Sum.inl (nI a)), some (Sum.inl y)], [Sum.inl y, Sum.inr (Sum.inl (20, 0))], (v, u, c))) rfl rfl ?_
  refine G_call (y := some (Sum.inl (c_in n y))) (M1 := (v, u, c)) rfl rfl (e_m_isNode _ hf) ?_
  refine G_is (S' := (13, [some (Sum.inr (Sum.inl (20, 0))), some (Sum.inl (nI a)), some (Sum.inl y)], [Sum.inl (c_in n y)], (v, u, c))) rfl ?_
  refine G_top hy ?_
  refine G_steps 1 (S1 := (if 0 = 0 then 30 else 16, [some (Sum.inr (Sum.inl (20, 0))), some (Sum.inl (nI a)), some (Sum.inl y)], [], (v, u, c))) rfl rfl ?_
  refine G_iT rfl ?_
  refine G_steps 2 (S1 := (45, [some (Sum.inr (Sum.inl (20, 0))), some (Sum.inl (nI a)), some (Sum.inl y)], [Sum.inl (-1)], (v, u, c))) rfl rfl ?_
  exact G_fin rfl rfl rfl
set_option maxRecDepth 100000 in
theorem e_m_sent2 (d : Nat) {n L : Nat} {xs : Nat → Int32} {v u : mV} {c : Nat} {a m : Nat} (hn : n ≤ 6) (hf : F_m n u) (ha : a < n) (hm : m < n) : E_v false n L xs (d + 2) 77 [Sum.inr (Sum.inl (20, 0)), Sum.inl (nI a), Sum.inl (nI m)] (v, u, c) (some (Sum.inl (d_se u a m))) (v, u, c) := by
  refine E_mk mc_77 (by decide) ?_
  refine G_steps 2 (S1 := (2, [some (Sum.inr (Sum.inl (20, 0))), some (Sum.inl (nI a)), some (Sum.inl (nI m))], [Sum.inl (nI a), Sum.inr (Sum.inl (20, 0))], (v, u, c))) rfl rfl ?_
  refine G_call (y := some (Sum.inl (c_in n (nI a)))) (M1 := (v, u, c)) rfl rfl (e_m_isNode _ hf) ?_
  refine G_is (S' := (5, [some (Sum.inr (Sum.inl (20, 0))), some (Sum.inl (nI a)), some (Sum.inl (nI m))], [Sum.inl (c_in n (nI a))], (v, u, c))) rfl ?_
  refine G_top (in_1 hn ha) ?_
  refine G_steps 1 (S1 := (if 1 = 0 then 30 else 8, [some (Sum.inr (Sum.inl (20, 0))), some (Sum.inl (nI a)), some (Sum.inl (nI m))], [], (v, u, c))) rfl rfl ?_
  refine G_iF (by decide) ?_
  refine G_steps 2 (S1 := (10, [some (Sum.inr (Sum.inl (20, 0))), some (Sum.inl (nI a)), some (Sum.inl (nI m))], [Sum.inl (nI m), Sum.inr (Sum.inl (20, 0))], (v, u, c))) rfl rfl ?_
  refine G_call (y := some (Sum.inl (c_in n (nI m)))) (M1 := (v, u, c)) rfl rfl (e_m_isNode _ hf) ?_
  refine G_is (S' := (13, [some (Sum.inr (Sum.inl (20, 0))), some (Sum.inl (nI a)), some (Sum.inl (nI m))], [Sum.inl (c_in n (nI m))], (v, u, c))) rfl ?_
  refine G_top (in_1 hn hm) ?_
  refine G_steps 1 (S1 := (if 1 = 0 then 30 else 16, [some (Sum.inr (Sum.inl (20, 0))), some (Sum.inl (nI a)), some (Sum.inl (nI m))], [], (v, u, c))) rfl rfl ?_
  refine G_iF (by decide) ?_
  refine G_steps 5 (S1 := (24, [some (Sum.inr (Sum.inl (20, 0))), some (Sum.inl (nI a)), some (Sum.inl (nI m))], [Sum.inl (6 * (nI a)), Sum.inr (Sum.inl (25, 0))], (v, u, c))) rfl rfl ?_
  refine G_top (nI_mul 6 a) ?_
  refine G_steps 2 (S1 := (26, [some (Sum.inr (Sum.inl (20, 0))), some (Sum.inl (nI a)), some (Sum.inl (nI m))], [Sum.inl ((nI (6 * a)) + (nI m)), Sum.inr (Sum.inl (25, 0))], (v, u, c))) rfl rfl ?_
  refine G_top (nI_ad (6 * a) m) ?_
  refine G_step (S1 := (27, [some (Sum.inr (Sum.inl (20, 0))), some (Sum.inl (nI a)), some (Sum.inl (nI m))], [Sum.inl (u 25 0 (ix (nI (6 * a + m))))], (v, u, c))) rfl (ib_nI (j := (6 * a + m)) (len := 36) (by omega) (by omega)) ?_
  rw [ix_nI (j := (6 * a + m)) (by omega)]
  refine G_steps 1 (S1 := (if ¬ u 25 0 (6 * a + m) = 0 then 34 else 30, [some (Sum.inr (Sum.inl (20, 0))), some (Sum.inl (nI a)), some (Sum.inl (nI m))], [], (v, u, c))) rfl rfl ?_
  refine G_ifn (fun h1 => ?_) (fun h1 => ?_)
  · skip
    refine G_steps 5 (S1 := (42, [some (Sum.inr (Sum.inl (20, 0))), some (Sum.inl (nI a)), some (Sum.inl (nI m))], [Sum.inl (6 * (nI a)), Sum.inr (Sum.inl (28, 0))], (v, u, c))) rfl rfl ?_
    refine G_top (nI_mul 6 a) ?_
    refine G_steps 2 (S1 := (44, [some (Sum.inr (Sum.inl (20, 0))), some (Sum.inl (nI a)), some (Sum.inl (nI m))], [Sum.inl ((nI (6 * a)) + (nI m)), Sum.inr (Sum.inl (28, 0))], (v, u, c))) rfl rfl ?_
    refine G_top (nI_ad (6 * a) m) ?_
    refine G_step (S1 := (45, [some (Sum.inr (Sum.inl (20, 0))), some (Sum.inl (nI a)), some (Sum.inl (nI m))], [Sum.inl (u 28 0 (ix (nI (6 * a + m))))], (v, u, c))) rfl (ib_nI (j := (6 * a + m)) (len := 36) (by omega) (by omega)) ?_
    rw [ix_nI (j := (6 * a + m)) (by omega)]
    exact G_fin rfl (by simp only [d_se, if_neg h1]) rfl
  · skip
    refine G_steps 2 (S1 := (45, [some (Sum.inr (Sum.inl (20, 0))), some (Sum.inl (nI a)), some (Sum.inl (nI m))], [Sum.inl (-1)], (v, u, c))) rfl rfl ?_
    exact G_fin rfl (by simp only [d_se, if_pos h1]) rfl
set_option maxRecDepth 100000 in
theorem e_m_probe0 (d : Nat) {n L : Nat} {xs : Nat → Int32} {v u : mV} {c : Nat} {x : Int32} (hn : n ≤ 6) (hf : F_m n u) (hx : c_in n x = 0) : E_v false n L xs (d + 2) 76 [Sum.inr (Sum.inl (20, 0)), Sum.inl x] (v, u, c) (some (Sum.inl (-1))) (v, u, c) := by
  refine E_mk mc_76 (by decide) ?_
  refine G_steps 2 (S1 := (2, [some (Sum.inr (Sum.inl (20, 0))), some (Sum.inl x)], [Sum.inl x, Sum.inr (Sum.inl (20, 0))], (v, u, c))) rfl rfl ?_
  refine G_call (y := some (Sum.inl (c_in n x))) (M1 := (v, u, c)) rfl rfl (e_m_isNode _ hf) ?_
  refine G_is (S' := (5, [some (Sum.inr (Sum.inl (20, 0))), some (Sum.inl x)], [Sum.inl (c_in n x)], (v, u, c))) rfl ?_
  refine G_top hx ?_
  refine G_steps 1 (S1 := (if 0 = 0 then 17 else 8, [some (Sum.inr (Sum.inl (20, 0))), some (Sum.inl x)], [], (v, u, c))) rfl rfl ?_
  refine G_iT rfl ?_
  refine G_steps 2 (S1 := (48, [some (Sum.inr (Sum.inl (20, 0))), some (Sum.inl x)], [Sum.inl (-1)], (v, u, c))) rfl rfl ?_
  exact G_fin rfl rfl rfl
set_option maxRecDepth 100000 in
theorem e_m_probe1 (d : Nat) {n L : Nat} {xs : Nat → Int32} {v u : mV} {c : Nat} {a : Nat} (hn : n ≤ 6) (hf : F_m n u) (ha : a < n) : E_v false n L xs (d + 2) 76 [Sum.inr (Sum.inl (20, 0)), Sum.inl (nI a)] (v, u, c) (some (Sum.inl (d_pr u a))) (v, u, c) := by
  refine E_mk mc_76 (by decide) ?_
  refine G_steps 2 (S1 := (2, [some (Sum.inr (Sum.inl (20, 0))), some (Sum.inl (nI a))], [Sum.inl (nI a), Sum.inr (Sum.inl (20, 0))], (v, u, c))) rfl rfl ?_
  refine G_call (y := some (Sum.inl (c_in n (nI a)))) (M1 := (v, u, c)) rfl rfl (e_m_isNode _ hf) ?_
  refine G_is (S' := (5, [some (Sum.inr (Sum.inl (20, 0))), some (Sum.inl (nI a))], [Sum.inl (c_in n (nI a))], (v, u, c))) rfl ?_
  refine G_top (in_1 hn ha) ?_
  refine G_steps 1 (S1 := (if 1 = 0 then 17 else 8, [some (Sum.inr (Sum.inl (20, 0))), some (Sum.inl (nI a))], [], (v, u, c))) rfl rfl ?_
  refine G_iF (by decide) ?_
  refine G_steps 3 (S1 := (13, [some (Sum.inr (Sum.inl (20, 0))), some (Sum.inl (nI a))], [Sum.inl (nI a), Sum.inr (Sum.inl (31, 0))], (v, u, c))) rfl rfl ?_
  refine G_step (S1 := (14, [some (Sum.inr (Sum.inl (20, 0))), some (Sum.inl (nI a))], [Sum.inl (u 31 0 (ix (nI a)))], (v, u, c))) rfl (ib_nI (j := a) (len := 6) (by omega) (by omega)) ?_
  rw [ix_nI (j := a) (by omega)]
  refine G_steps 1 (S1 := (if 0 ≤ u 31 0 a then 21 else 17, [some (Sum.inr (Sum.inl (20, 0))), some (Sum.inl (nI a))], [], (v, u, c))) rfl rfl ?_
  refine G_if (fun h1 => ?_) (fun h1 => ?_)
  · skip
    refine G_steps 3 (S1 := (26, [some (Sum.inr (Sum.inl (20, 0))), some (Sum.inl (nI a))], [Sum.inl (nI a), Sum.inr (Sum.inl (32, 0))], (v, u, c))) rfl rfl ?_
    refine G_step (S1 := (27, [some (Sum.inr (Sum.inl (20, 0))), some (Sum.inl (nI a))], [Sum.inl (u 32 0 (ix (nI a)))], (v, u, c))) rfl (ib_nI (j := a) (len := 6) (by omega) (by omega)) ?_
    rw [ix_nI (j := a) (by omega)]
    refine G_steps 1 (S1 := (if u 32 0 a = 0 then 42 else 30, [some (Sum.inr (Sum.inl (20, 0))), some (Sum.inl (nI a))], [], (v, u, c))) rfl rfl ?_
    refine G_if (fun h2 => ?_) (fun h2 => ?_)
    · skip
      refine G_steps 3 (S1 := (47, [some (Sum.inr (Sum.inl (20, 0))), some (Sum.inl (nI a))], [Sum.inl (nI a), Sum.inr (Sum.inl (31, 0))], (v, u, c))) rfl rfl ?_
      refine G_step (S1 := (48, [some (Sum.inr (Sum.inl (20, 0))), some (Sum.inl (nI a))], [Sum.inl (u 31 0 (ix (nI a)))], (v, u, c))) rfl (ib_nI (j := a) (len := 6) (by omega) (by omega)) ?_
      rw [ix_nI (j := a) (by omega)]
      exact G_fin rfl (by simp only [d_pr, if_pos h1, if_pos h2]) rfl
    · skip
      refine G_steps 3 (S1 := (35, [some (Sum.inr (Sum.inl (20, 0))), some (Sum.inl (nI a))], [Sum.inl (nI a), Sum.inr (Sum.inl (31, 0))], (v, u, c))) rfl rfl ?_
      refine G_step (S1 := (36, [some (Sum.inr (Sum.inl (20, 0))), some (Sum.inl (nI a))], [Sum.inl (u 31 0 (ix (nI a)))], (v, u, c))) rfl (ib_nI (j := a) (len := 6) (by omega) (by omega)) ?_
      rw [ix_nI (j := a) (by omega)]
      refine G_steps 3 (S1 := (48, [some (Sum.inr (Sum.inl (20, 0))), some (Sum.inl (nI a))], [Sum.inl ((u 31 0 a) + 8)], (v, u, c))) rfl rfl ?_
      exact G_fin rfl (by simp only [d_pr, if_pos h1, if_neg h2]) rfl
  · skip
    refine G_steps 2 (S1 := (48, [some (Sum.inr (Sum.inl (20, 0))), some (Sum.inl (nI a))], [Sum.inl (-1)], (v, u, c))) rfl rfl ?_
    exact G_fin rfl (by simp only [d_pr, if_neg h1]) rfl
set_option maxRecDepth 100000 in
theorem e_m_flying (d : Nat) {n L : Nat} {xs : Nat → Int32} {v u : mV} {c : Nat}  : E_v false n L xs (d + 1) 78 [Sum.inr (Sum.inl (20, 0))] (v, u, c) (some (Sum.inl (u 20 0 13))) (v, u, c) := by
  refine E_mk mc_78 (by decide) ?_
  refine G_steps 2 (S1 := (4, [some (Sum.inr (Sum.inl (20, 0)))], [Sum.inl (u 20 0 13)], (v, u, c))) rfl rfl ?_
  exact G_fin rfl rfl rfl
set_option maxRecDepth 100000 in
theorem e_m_message0 (d : Nat) {n L : Nat} {xs : Nat → Int32} {v u : mV} {c : Nat} {x : Int32} (hn : n ≤ 6) (hw : W_M n u) (hx : x < 0 ∨ ¬ x < nI (rw_ u)) : E_v false n L xs (d + 1) 79 [Sum.inr (Sum.inl (20, 0)), Sum.inl x] (v, u, c) (some (Sum.inl (-1))) (v, u, c) := by
  refine E_mk mc_79 (by decide) ?_
  refine G_steps 2 (S1 := (if x < 0 then 12 else 4, [some (Sum.inr (Sum.inl (20, 0))), some (Sum.inl x)], [], (v, u, c))) rfl rfl ?_
  refine G_if (fun h1 => ?_) (fun h1 => ?_)
  · skip
    refine G_steps 1 (S1 := (13, [some (Sum.inr (Sum.inl (20, 0))), some (Sum.inl x)], [Sum.inl (-1)], (v, u, c))) rfl rfl ?_
    exact G_fin rfl rfl rfl
  · skip
    refine G_steps 3 (S1 := (9, [some (Sum.inr (Sum.inl (20, 0))), some (Sum.inl x)], [Sum.inl (u 20 0 13), Sum.inl x], (v, u, c))) rfl rfl ?_
    refine G_top hw.2.1 ?_
    refine G_steps 1 (S1 := (if x < nI (rw_ u) then 14 else 12, [some (Sum.inr (Sum.inl (20, 0))), some (Sum.inl x)], [], (v, u, c))) rfl rfl ?_
    refine G_if (fun h2 => ?_) (fun h2 => ?_)
    · skip
      exact absurd hx (fun z => z.elim h1 (fun q => q h2))
    · skip
      refine G_steps 1 (S1 := (13, [some (Sum.inr (Sum.inl (20, 0))), some (Sum.inl x)], [Sum.inl (-1)], (v, u, c))) rfl rfl ?_
      exact G_fin rfl rfl rfl
set_option maxRecDepth 100000 in
theorem e_m_message1 (d : Nat) {n L : Nat} {xs : Nat → Int32} {v u : mV} {c : Nat} {k : Nat} (hn : n ≤ 6) (hw : W_M n u) (hk : k < rw_ u) : E_v false n L xs (d + 1) 79 [Sum.inr (Sum.inl (20, 0)), Sum.inl (nI k)] (v, u, c) (some (Sum.inl (d_ms u k))) (v, u, c) := by
  refine E_mk mc_79 (by decide) ?_
  refine G_steps 2 (S1 := (if nI k < 0 then 12 else 4, [some (Sum.inr (Sum.inl (20, 0))), some (Sum.inl (nI k))], [], (v, u, c))) rfl rfl ?_
  refine G_iF (nI_pos (by have := hw.2.2; omega)) ?_
  refine G_steps 3 (S1 := (9, [some (Sum.inr (Sum.inl (20, 0))), some (Sum.inl (nI k))], [Sum.inl (u 20 0 13), Sum.inl (nI k)], (v, u, c))) rfl rfl ?_
  refine G_top hw.2.1 ?_
  refine G_steps 1 (S1 := (if nI k < nI (rw_ u) then 14 else 12, [some (Sum.inr (Sum.inl (20, 0))), some (Sum.inl (nI k))], [], (v, u, c))) rfl rfl ?_
  refine G_iT ((nI_lt' (by have := hw.2.2; omega) (by have := hw.2.2; omega)).mpr hk) ?_
  refine G_steps 3 (S1 := (19, [some (Sum.inr (Sum.inl (20, 0))), some (Sum.inl (nI k))], [Sum.inl (nI k), Sum.inr (Sum.inl (33, 0))], (v, u, c))) rfl rfl ?_
  refine G_step (S1 := (20, [some (Sum.inr (Sum.inl (20, 0))), some (Sum.inl (nI k))], [Sum.inl (u 33 0 (ix (nI k)))], (v, u, c))) rfl (ib_nI (j := k) (len := 25) (by have := hw.2.2; omega) (by omega)) ?_
  rw [ix_nI (j := k) (by have := hw.2.2; omega)]
  refine G_steps 5 (S1 := (29, [some (Sum.inr (Sum.inl (20, 0))), some (Sum.inl (nI k))], [Sum.inl (nI k), Sum.inr (Sum.inl (34, 0)), Sum.inl ((u 33 0 k) * 4096)], (v, u, c))) rfl rfl ?_
  refine G_step (S1 := (30, [some (Sum.inr (Sum.inl (20, 0))), some (Sum.inl (nI k))], [Sum.inl (u 34 0 (ix (nI k))), Sum.inl ((u 33 0 k) * 4096)], (v, u, c))) rfl (ib_nI (j := k) (len := 25) (by have := hw.2.2; omega) (by omega)) ?_
  rw [ix_nI (j := k) (by have := hw.2.2; omega)]
  refine G_steps 6 (S1 := (40, [some (Sum.inr (Sum.inl (20, 0))), some (Sum.inl (nI k))], [Sum.inl (nI k), Sum.inr (Sum.inl (35, 0)), Sum.inl (((u 33 0 k) * 4096) + ((u 34 0 k) * 512))], (v, u, c))) rfl rfl ?_
  refine G_step (S1 := (41, [some (Sum.inr (Sum.inl (20, 0))), some (Sum.inl (nI k))], [Sum.inl (u 35 0 (ix (nI k))), Sum.inl (((u 33 0 k) * 4096) + ((u 34 0 k) * 512))], (v, u, c))) rfl (ib_nI (j := k) (len := 25) (by have := hw.2.2; omega) (by omega)) ?_
  rw [ix_nI (j := k) (by have := hw.2.2; omega)]
  refine G_steps 6 (S1 := (50, [some (Sum.inr (Sum.inl (20, 0))), some (Sum.inl (nI k))], [Sum.inl (nI k), Sum.inr (Sum.inl (37, 0)), Sum.inl ((((u 33 0 k) * 4096) + ((u 34 0 k) * 512)) + ((u 35 0 k) * 64))], (v, u, c))) rfl rfl ?_
  refine G_step (S1 := (51, [some (Sum.inr (Sum.inl (20, 0))), some (Sum.inl (nI k))], [Sum.inl (u 37 0 (ix (nI k))), Sum.inl ((((u 33 0 k) * 4096) + ((u 34 0 k) * 512)) + ((u 35 0 k) * 64))], (v, u, c))) rfl (ib_nI (j := k) (len := 25) (by have := hw.2.2; omega) (by omega)) ?_
  rw [ix_nI (j := k) (by have := hw.2.2; omega)]
  refine G_steps 6 (S1 := (60, [some (Sum.inr (Sum.inl (20, 0))), some (Sum.inl (nI k))], [Sum.inl (nI k), Sum.inr (Sum.inl (39, 0)), Sum.inl (((((u 33 0 k) * 4096) + ((u 34 0 k) * 512)) + ((u 35 0 k) * 64)) + ((u 37 0 k) * 8))], (v, u, c))) rfl rfl ?_
  refine G_step (S1 := (61, [some (Sum.inr (Sum.inl (20, 0))), some (Sum.inl (nI k))], [Sum.inl (u 39 0 (ix (nI k))), Sum.inl (((((u 33 0 k) * 4096) + ((u 34 0 k) * 512)) + ((u 35 0 k) * 64)) + ((u 37 0 k) * 8))], (v, u, c))) rfl (ib_nI (j := k) (len := 25) (by have := hw.2.2; omega) (by omega)) ?_
  rw [ix_nI (j := k) (by have := hw.2.2; omega)]
  refine G_steps 1 (S1 := (62, [some (Sum.inr (Sum.inl (20, 0))), some (Sum.inl (nI k))], [Sum.inl ((((((u 33 0 k) * 4096) + ((u 34 0 k) * 512)) + ((u 35 0 k) * 64)) + ((u 37 0 k) * 8)) + (u 39 0 k))], (v, u, c))) rfl rfl ?_
  exact G_fin rfl rfl rfl
set_option maxRecDepth 100000 in
theorem e_m_news0 (d : Nat) {n L : Nat} {xs : Nat → Int32} {v u : mV} {c : Nat} {x y : Int32} (hn : n ≤ 6) (hw : W_M n u) (hx : x < 0 ∨ nI (rw_ u) ≤ x) : E_v false n L xs (d + 1) 80 [Sum.inr (Sum.inl (20, 0)), Sum.inl x, Sum.inl y] (v, u, c) (some (Sum.inr (Sum.inr (Int32.toInt64 (-1))))) (v, u, c) := by
  refine E_mk mc_80 (by decide) ?_
  refine G_steps 2 (S1 := (if x < 0 then 26 else 4, [some (Sum.inr (Sum.inl (20, 0))), some (Sum.inl x), some (Sum.inl y)], [], (v, u, c))) rfl rfl ?_
  refine G_if (fun h1 => ?_) (fun h1 => ?_)
  · skip
    refine G_steps 1 (S1 := (29, [some (Sum.inr (Sum.inl (20, 0))), some (Sum.inl x), some (Sum.inl y)], [Sum.inr (Sum.inr (Int32.toInt64 (-1)))], (v, u, c))) rfl rfl ?_
    exact G_fin rfl rfl rfl
  · skip
    refine G_steps 3 (S1 := (9, [some (Sum.inr (Sum.inl (20, 0))), some (Sum.inl x), some (Sum.inl y)], [Sum.inl (u 20 0 13), Sum.inl x], (v, u, c))) rfl rfl ?_
    refine G_top hw.2.1 ?_
    refine G_steps 1 (S1 := (if nI (rw_ u) ≤ x then 26 else 12, [some (Sum.inr (Sum.inl (20, 0))), some (Sum.inl x), some (Sum.inl y)], [], (v, u, c))) rfl rfl ?_
    refine G_if (fun h2 => ?_) (fun h2 => ?_)
    · skip
      refine G_steps 1 (S1 := (29, [some (Sum.inr (Sum.inl (20, 0))), some (Sum.inl x), some (Sum.inl y)], [Sum.inr (Sum.inr (Int32.toInt64 (-1)))], (v, u, c))) rfl rfl ?_
      exact G_fin rfl rfl rfl
    · skip
      exact absurd hx (fun z => z.elim h1 h2)
set_option maxRecDepth 100000 in
theorem e_m_news1 (d : Nat) {n L : Nat} {xs : Nat → Int32} {v u : mV} {c : Nat} {k : Nat} {y : Int32} (hn : n ≤ 6) (hw : W_M n u) (hk : k < rw_ u) (hy : y < 0 ∨ ¬ y < u 39 0 k) : E_v false n L xs (d + 1) 80 [Sum.inr (Sum.inl (20, 0)), Sum.inl (nI k), Sum.inl y] (v, u, c) (some (Sum.inr (Sum.inr (Int32.toInt64 (-1))))) (v, u, c) := by
  refine E_mk mc_80 (by decide) ?_
  refine G_steps 2 (S1 := (if nI k < 0 then 26 else 4, [some (Sum.inr (Sum.inl (20, 0))), some (Sum.inl (nI k)), some (Sum.inl y)], [], (v, u, c))) rfl rfl ?_
  refine G_iF (nI_pos (by have := hw.2.2; omega)) ?_
  refine G_steps 3 (S1 := (9, [some (Sum.inr (Sum.inl (20, 0))), some (Sum.inl (nI k)), some (Sum.inl y)], [Sum.inl (u 20 0 13), Sum.inl (nI k)], (v, u, c))) rfl rfl ?_
  refine G_top hw.2.1 ?_
  refine G_steps 1 (S1 := (if nI (rw_ u) ≤ nI k then 26 else 12, [some (Sum.inr (Sum.inl (20, 0))), some (Sum.inl (nI k)), some (Sum.inl y)], [], (v, u, c))) rfl rfl ?_
  refine G_iF (fun z => absurd ((nI_le' (by have := hw.2.2; omega) (by have := hw.2.2; omega)).mp z) (by omega)) ?_
  refine G_steps 2 (S1 := (if y < 0 then 26 else 16, [some (Sum.inr (Sum.inl (20, 0))), some (Sum.inl (nI k)), some (Sum.inl y)], [], (v, u, c))) rfl rfl ?_
  refine G_if (fun h1 => ?_) (fun h1 => ?_)
  · skip
    refine G_steps 1 (S1 := (29, [some (Sum.inr (Sum.inl (20, 0))), some (Sum.inl (nI k)), some (Sum.inl y)], [Sum.inr (Sum.inr (Int32.toInt64 (-1)))], (v, u, c))) rfl rfl ?_
    exact G_fin rfl rfl rfl
  · skip
    refine G_steps 4 (S1 := (22, [some (Sum.inr (Sum.inl (20, 0))), some (Sum.inl (nI k)), some (Sum.inl y)], [Sum.inl (nI k), Sum.inr (Sum.inl (39, 0)), Sum.inl y], (v, u, c))) rfl rfl ?_
    refine G_step (S1 := (23, [some (Sum.inr (Sum.inl (20, 0))), some (Sum.inl (nI k)), some (Sum.inl y)], [Sum.inl (u 39 0 (ix (nI k))), Sum.inl y], (v, u, c))) rfl (ib_nI (j := k) (len := 25) (by have := hw.2.2; omega) (by omega)) ?_
    rw [ix_nI (j := k) (by have := hw.2.2; omega)]
    refine G_steps 1 (S1 := (if y < u 39 0 k then 30 else 26, [some (Sum.inr (Sum.inl (20, 0))), some (Sum.inl (nI k)), some (Sum.inl y)], [], (v, u, c))) rfl rfl ?_
    refine G_if (fun h2 => ?_) (fun h2 => ?_)
    · skip
      exact absurd hy (fun z => z.elim h1 (fun q => q h2))
    · skip
      refine G_steps 1 (S1 := (29, [some (Sum.inr (Sum.inl (20, 0))), some (Sum.inl (nI k)), some (Sum.inl y)], [Sum.inr (Sum.inr (Int32.toInt64 (-1)))], (v, u, c))) rfl rfl ?_
      exact G_fin rfl rfl rfl
set_option maxRecDepth 100000 in
theorem e_m_news2 (d : Nat) {n L : Nat} {xs : Nat → Int32} {v u : mV} {c : Nat} {k j cnt : Nat} (hn : n ≤ 6) (hw : W_M n u) (hk : k < rw_ u) (hc6 : u 39 0 k = nI cnt) (hct : cnt ≤ 2) (hj : j < cnt) : E_v false n L xs (d + 1) 80 [Sum.inr (Sum.inl (20, 0)), Sum.inl (nI k), Sum.inl (nI j)] (v, u, c) (some (Sum.inr (Sum.inr (d_nn u k j)))) (v, u, c) := by
  refine E_mk mc_80 (by decide) ?_
  refine G_steps 2 (S1 := (if nI k < 0 then 26 else 4, [some (Sum.inr (Sum.inl (20, 0))), some (Sum.inl (nI k)), some (Sum.inl (nI j))], [], (v, u, c))) rfl rfl ?_
  refine G_iF (nI_pos (by have := hw.2.2; omega)) ?_
  refine G_steps 3 (S1 := (9, [some (Sum.inr (Sum.inl (20, 0))), some (Sum.inl (nI k)), some (Sum.inl (nI j))], [Sum.inl (u 20 0 13), Sum.inl (nI k)], (v, u, c))) rfl rfl ?_
  refine G_top hw.2.1 ?_
  refine G_steps 1 (S1 := (if nI (rw_ u) ≤ nI k then 26 else 12, [some (Sum.inr (Sum.inl (20, 0))), some (Sum.inl (nI k)), some (Sum.inl (nI j))], [], (v, u, c))) rfl rfl ?_
  refine G_iF (fun z => absurd ((nI_le' (by have := hw.2.2; omega) (by have := hw.2.2; omega)).mp z) (by omega)) ?_
  refine G_steps 2 (S1 := (if nI j < 0 then 26 else 16, [some (Sum.inr (Sum.inl (20, 0))), some (Sum.inl (nI k)), some (Sum.inl (nI j))], [], (v, u, c))) rfl rfl ?_
  refine G_iF (nI_pos (by omega)) ?_
  refine G_steps 4 (S1 := (22, [some (Sum.inr (Sum.inl (20, 0))), some (Sum.inl (nI k)), some (Sum.inl (nI j))], [Sum.inl (nI k), Sum.inr (Sum.inl (39, 0)), Sum.inl (nI j)], (v, u, c))) rfl rfl ?_
  refine G_step (S1 := (23, [some (Sum.inr (Sum.inl (20, 0))), some (Sum.inl (nI k)), some (Sum.inl (nI j))], [Sum.inl (u 39 0 (ix (nI k))), Sum.inl (nI j)], (v, u, c))) rfl (ib_nI (j := k) (len := 25) (by have := hw.2.2; omega) (by omega)) ?_
  rw [ix_nI (j := k) (by have := hw.2.2; omega)]
  refine G_top hc6 ?_
  refine G_steps 1 (S1 := (if nI j < nI cnt then 30 else 26, [some (Sum.inr (Sum.inl (20, 0))), some (Sum.inl (nI k)), some (Sum.inl (nI j))], [], (v, u, c))) rfl rfl ?_
  refine G_iT ((nI_lt' (by omega) (by omega)).mpr hj) ?_
  refine G_steps 5 (S1 := (37, [some (Sum.inr (Sum.inl (20, 0))), some (Sum.inl (nI k)), some (Sum.inl (nI j))], [Sum.inl (2 * (nI k)), Sum.inr (Sum.inl (40, 0))], (v, u, c))) rfl rfl ?_
  refine G_top (nI_mul 2 k) ?_
  refine G_steps 2 (S1 := (39, [some (Sum.inr (Sum.inl (20, 0))), some (Sum.inl (nI k)), some (Sum.inl (nI j))], [Sum.inl ((nI (2 * k)) + (nI j)), Sum.inr (Sum.inl (40, 0))], (v, u, c))) rfl rfl ?_
  refine G_top (nI_ad (2 * k) j) ?_
  refine G_step (S1 := (40, [some (Sum.inr (Sum.inl (20, 0))), some (Sum.inl (nI k)), some (Sum.inl (nI j))], [Sum.inl (u 40 0 (ix (nI (2 * k + j))))], (v, u, c))) rfl (ib_nI (j := 2 * k + j) (len := 50) (by have := hw.2.2; omega) (by omega)) ?_
  rw [ix_nI (j := (2 * k + j)) (by have := hw.2.2; omega)]
  refine G_steps 8 (S1 := (52, [some (Sum.inr (Sum.inl (20, 0))), some (Sum.inl (nI k)), some (Sum.inl (nI j))], [Sum.inl (2 * (nI k)), Sum.inr (Sum.inl (41, 0)), Sum.inr (Sum.inr ((Int32.toInt64 (u 40 0 (2 * k + j))) * (Int32.toInt64 4)))], (v, u, c))) rfl rfl ?_
  refine G_top (nI_mul 2 k) ?_
  refine G_steps 2 (S1 := (54, [some (Sum.inr (Sum.inl (20, 0))), some (Sum.inl (nI k)), some (Sum.inl (nI j))], [Sum.inl ((nI (2 * k)) + (nI j)), Sum.inr (Sum.inl (41, 0)), Sum.inr (Sum.inr ((Int32.toInt64 (u 40 0 (2 * k + j))) * (Int32.toInt64 4)))], (v, u, c))) rfl rfl ?_
  refine G_top (nI_ad (2 * k) j) ?_
  refine G_step (S1 := (55, [some (Sum.inr (Sum.inl (20, 0))), some (Sum.inl (nI k)), some (Sum.inl (nI j))], [Sum.inl (u 41 0 (ix (nI (2 * k + j)))), Sum.inr (Sum.inr ((Int32.toInt64 (u 40 0 (2 * k + j))) * (Int32.toInt64 4)))], (v, u, c))) rfl (ib_nI (j := 2 * k + j) (len := 50) (by have := hw.2.2; omega) (by omega)) ?_
  rw [ix_nI (j := (2 * k + j)) (by have := hw.2.2; omega)]
  refine G_steps 7 (S1 := (64, [some (Sum.inr (Sum.inl (20, 0))), some (Sum.inl (nI k)), some (Sum.inl (nI j))], [Sum.inl (2 * (nI k)), Sum.inr (Sum.inl (42, 0)), Sum.inr (Sum.inr (((Int32.toInt64 (u 40 0 (2 * k + j))) * (Int32.toInt64 4)) + (Int32.toInt64 (u 41 0 (2 * k + j)))))], (v, u, c))) rfl rfl ?_
  refine G_top (nI_mul 2 k) ?_
  refine G_steps 2 (S1 := (66, [some (Sum.inr (Sum.inl (20, 0))), some (Sum.inl (nI k)), some (Sum.inl (nI j))], [Sum.inl ((nI (2 * k)) + (nI j)), Sum.inr (Sum.inl (42, 0)), Sum.inr (Sum.inr (((Int32.toInt64 (u 40 0 (2 * k + j))) * (Int32.toInt64 4)) + (Int32.toInt64 (u 41 0 (2 * k + j)))))], (v, u, c))) rfl rfl ?_
  refine G_top (nI_ad (2 * k) j) ?_
  refine G_step (S1 := (67, [some (Sum.inr (Sum.inl (20, 0))), some (Sum.inl (nI k)), some (Sum.inl (nI j))], [Sum.inl (u 42 0 (ix (nI (2 * k + j)))), Sum.inr (Sum.inr (((Int32.toInt64 (u 40 0 (2 * k + j))) * (Int32.toInt64 4)) + (Int32.toInt64 (u 41 0 (2 * k + j)))))], (v, u, c))) rfl (ib_nI (j := 2 * k + j) (len := 50) (by have := hw.2.2; omega) (by omega)) ?_
  rw [ix_nI (j := (2 * k + j)) (by have := hw.2.2; omega)]
  refine G_steps 4 (S1 := (73, [some (Sum.inr (Sum.inl (20, 0))), some (Sum.inl (nI k)), some (Sum.inl (nI j))], [Sum.inr (Sum.inr ((((Int32.toInt64 (u 40 0 (2 * k + j))) * (Int32.toInt64 4)) + (Int32.toInt64 (u 41 0 (2 * k + j)))) + ((Int32.toInt64 (u 42 0 (2 * k + j))) * (Int32.toInt64 64))))], (v, u, c))) rfl rfl ?_
  exact G_fin rfl rfl rfl
set_option maxRecDepth 100000 in
theorem e_m_declared0 (d : Nat) {n L : Nat} {xs : Nat → Int32} {v u : mV} {c : Nat} {x : Int32} (hn : n ≤ 6) (hf : F_m n u) (hx : c_in n x = 0) : E_v false n L xs (d + 2) 81 [Sum.inr (Sum.inl (20, 0)), Sum.inl x] (v, u, c) (some (Sum.inl (-1))) (v, u, c) := by
  refine E_mk mc_81 (by decide) ?_
  refine G_steps 2 (S1 := (2, [some (Sum.inr (Sum.inl (20, 0))), some (Sum.inl x), none, none], [Sum.inl x, Sum.inr (Sum.inl (20, 0))], (v, u, c))) rfl rfl ?_
  refine G_call (y := some (Sum.inl (c_in n x))) (M1 := (v, u, c)) rfl rfl (e_m_isNode _ hf) ?_
  refine G_is (S' := (5, [some (Sum.inr (Sum.inl (20, 0))), some (Sum.inl x), none, none], [Sum.inl (c_in n x)], (v, u, c))) rfl ?_
  refine G_top hx ?_
  refine G_steps 1 (S1 := (if ¬ 0 = 0 then 10 else 8, [some (Sum.inr (Sum.inl (20, 0))), some (Sum.inl x), none, none], [], (v, u, c))) rfl rfl ?_
  refine G_nF rfl ?_
  refine G_steps 1 (S1 := (9, [some (Sum.inr (Sum.inl (20, 0))), some (Sum.inl x), none, none], [Sum.inl (-1)], (v, u, c))) rfl rfl ?_
  exact G_fin rfl rfl rfl
set_option maxRecDepth 100000 in
theorem e_m_declared1 (d : Nat) {n L : Nat} {xs : Nat → Int32} {v u : mV} {c : Nat} {m : Nat} (hn : n ≤ 6) (hf : F_m n u) (hm : m < n) : E_v false n L xs (d + 3) 81 [Sum.inr (Sum.inl (20, 0)), Sum.inl (nI m)] (v, u, c) (some (Sum.inl (nI (d_dc u m n)))) (v, u, c) := by
  refine E_mk mc_81 (by decide) ?_
  refine G_steps 2 (S1 := (2, [some (Sum.inr (Sum.inl (20, 0))), some (Sum.inl (nI m)), none, none], [Sum.inl (nI m), Sum.inr (Sum.inl (20, 0))], (v, u, c))) rfl rfl ?_
  refine G_call (y := some (Sum.inl (c_in n (nI m)))) (M1 := (v, u, c)) rfl rfl (e_m_isNode _ hf) ?_
  refine G_is (S' := (5, [some (Sum.inr (Sum.inl (20, 0))), some (Sum.inl (nI m)), none, none], [Sum.inl (c_in n (nI m))], (v, u, c))) rfl ?_
  refine G_top (in_1 hn hm) ?_
  refine G_steps 1 (S1 := (if ¬ 1 = 0 then 10 else 8, [some (Sum.inr (Sum.inl (20, 0))), some (Sum.inl (nI m)), none, none], [], (v, u, c))) rfl rfl ?_
  refine G_nT (by decide) ?_
  refine G_steps 4 (S1 := (14, [some (Sum.inr (Sum.inl (20, 0))), some (Sum.inl (nI m)), some (Sum.inl 0), some (Sum.inl 0)], [], (v, u, c))) rfl rfl ?_
  refine G_is (S' := (14, [some (Sum.inr (Sum.inl (20, 0))), some (Sum.inl (nI m)), some (Sum.inl (nI (d_dc u m 0))), some (Sum.inl (nI 0))], [], (v, u, c))) rfl ?_
  refine G_loop (S := fun k => (14, [some (Sum.inr (Sum.inl (20, 0))), some (Sum.inl (nI m)), some (Sum.inl (nI (d_dc u m k))), some (Sum.inl (nI k))], [], (v, u, c))) (N := n) (fun k hk K => ?_) ?_
  · skip
    refine G_steps 3 (S1 := (19, [some (Sum.inr (Sum.inl (20, 0))), some (Sum.inl (nI m)), some (Sum.inl (nI (d_dc u m k))), some (Sum.inl (nI k))], [Sum.inl (u 20 0 0), Sum.inl (nI k)], (v, u, c))) rfl rfl ?_
    refine G_top hf ?_
    refine G_steps 1 (S1 := (if nI n ≤ nI k then 55 else 22, [some (Sum.inr (Sum.inl (20, 0))), some (Sum.inl (nI m)), some (Sum.inl (nI (d_dc u m k))), some (Sum.inl (nI k))], [], (v, u, c))) rfl rfl ?_
    refine G_iF (fun z => absurd ((nI_le' (by omega) (by omega)).mp z) (by omega)) ?_
    refine G_steps 3 (S1 := (27, [some (Sum.inr (Sum.inl (20, 0))), some (Sum.inl (nI m)), some (Sum.inl (nI (d_dc u m k))), some (Sum.inl (nI k))], [Sum.inl (nI k), Sum.inr (Sum.inl (21, 0))], (v, u, c))) rfl rfl ?_
    refine G_step (S1 := (28, [some (Sum.inr (Sum.inl (20, 0))), some (Sum.inl (nI m)), some (Sum.inl (nI (d_dc u m k))), some (Sum.inl (nI k))], [Sum.inl (u 21 0 (ix (nI k)))], (v, u, c))) rfl (ib_nI (j := k) (len := 6) (by omega) (by omega)) ?_
    rw [ix_nI (j := k) (by omega)]
    refine G_steps 1 (S1 := (if ¬ u 21 0 k = 0 then 47 else 31, [some (Sum.inr (Sum.inl (20, 0))), some (Sum.inl (nI m)), some (Sum.inl (nI (d_dc u m k))), some (Sum.inl (nI k))], [], (v, u, c))) rfl rfl ?_
    refine G_ifn (fun h1 => ?_) (fun h1 => ?_)
    · skip
      refine G_steps 4 (S1 := (14, [some (Sum.inr (Sum.inl (20, 0))), some (Sum.inl (nI m)), some (Sum.inl (nI (d_dc u m k))), some (Sum.inl ((nI k) + 1))], [], (v, u, c))) rfl rfl ?_
      exact G_is (by simp only [d_dc, nI_succ, if_neg h1]) K
    · skip
      refine G_steps 3 (S1 := (34, [some (Sum.inr (Sum.inl (20, 0))), some (Sum.inl (nI m)), some (Sum.inl (nI (d_dc u m k))), some (Sum.inl (nI k))], [Sum.inl (nI m), Sum.inl (nI k), Sum.inr (Sum.inl (20, 0))], (v, u, c))) rfl rfl ?_
      refine G_call (y := some (Sum.inl (d_st u k m))) (M1 := (v, u, c)) rfl rfl (e_m_status2 _ hn hf (by omega) (by omega)) ?_
      refine G_is (S' := (37, [some (Sum.inr (Sum.inl (20, 0))), some (Sum.inl (nI m)), some (Sum.inl (nI (d_dc u m k))), some (Sum.inl (nI k))], [Sum.inl (d_st u k m)], (v, u, c))) rfl ?_
      refine G_steps 2 (S1 := (if ¬ d_st u k m = 2 then 47 else 41, [some (Sum.inr (Sum.inl (20, 0))), some (Sum.inl (nI m)), some (Sum.inl (nI (d_dc u m k))), some (Sum.inl (nI k))], [], (v, u, c))) rfl rfl ?_
      refine G_ifn (fun h2 => ?_) (fun h2 => ?_)
      · skip
        refine G_steps 4 (S1 := (14, [some (Sum.inr (Sum.inl (20, 0))), some (Sum.inl (nI m)), some (Sum.inl (nI (d_dc u m k))), some (Sum.inl ((nI k) + 1))], [], (v, u, c))) rfl rfl ?_
        exact G_is (by simp only [d_dc, nI_succ, if_pos h1, if_neg h2]) K
      · skip
        refine G_steps 3 (S1 := (44, [some (Sum.inr (Sum.inl (20, 0))), some (Sum.inl (nI m)), some (Sum.inl (nI (d_dc u m k))), some (Sum.inl (nI k))], [Sum.inl ((nI (d_dc u m k)) + 1)], (v, u, c))) rfl rfl ?_
        refine G_top ((nI_succ (d_dc u m k)).symm) ?_
        refine G_steps 4 (S1 := (14, [some (Sum.inr (Sum.inl (20, 0))), some (Sum.inl (nI m)), some (Sum.inl (nI ((d_dc u m k) + 1))), some (Sum.inl ((nI k) + 1))], [], (v, u, c))) rfl rfl ?_
        exact G_is (by simp only [d_dc, nI_succ, if_pos h1, if_pos h2]) K
  · skip
    refine G_steps 3 (S1 := (19, [some (Sum.inr (Sum.inl (20, 0))), some (Sum.inl (nI m)), some (Sum.inl (nI (d_dc u m n))), some (Sum.inl (nI n))], [Sum.inl (u 20 0 0), Sum.inl (nI n)], (v, u, c))) rfl rfl ?_
    refine G_top hf ?_
    refine G_steps 1 (S1 := (if nI n ≤ nI n then 55 else 22, [some (Sum.inr (Sum.inl (20, 0))), some (Sum.inl (nI m)), some (Sum.inl (nI (d_dc u m n))), some (Sum.inl (nI n))], [], (v, u, c))) rfl rfl ?_
    refine G_iT ((nI_le' (by omega) (by omega)).mpr (Nat.le_refl _)) ?_
    refine G_steps 1 (S1 := (56, [some (Sum.inr (Sum.inl (20, 0))), some (Sum.inl (nI m)), some (Sum.inl (nI (d_dc u m n))), some (Sum.inl (nI n))], [Sum.inl (nI (d_dc u m n))], (v, u, c))) rfl rfl ?_
    exact G_fin rfl rfl rfl
set_option maxRecDepth 100000 in
theorem mdb_in (d : Nat) {n L : Nat} {xs : Nat → Int32} {v u : mV} {c : Nat} {a : Nat} {Z : aS → Prop} (hn : n ≤ 6) (hf : F_m n u) (ha : a < n) (K : G_o false n L xs (E_v false n L xs (d + 2)) (l_k cd_82) Z (4, [some (Sum.inr (Sum.inl (20, 0))), some (Sum.inl (nI (d_d2 n u (a + 1)))), some (Sum.inl (nI (a + 1))), some (Sum.inl (nI n))], [], (v, u, c))) : G_o false n L xs (E_v false n L xs (d + 2)) (l_k cd_82) Z (14, [some (Sum.inr (Sum.inl (20, 0))), some (Sum.inl (nI (d_d2 n u a + d_d1 u a 0))), some (Sum.inl (nI a)), some (Sum.inl (nI 0))], [], (v, u, c)) := by
  refine G_loop (S := fun k => (14, [some (Sum.inr (Sum.inl (20, 0))), some (Sum.inl (nI (d_d2 n u a + d_d1 u a k))), some (Sum.inl (nI a)), some (Sum.inl (nI k))], [], (v, u, c))) (N := n) (fun k hk K => ?_) ?_
  · skip
    refine G_steps 3 (S1 := (19, [some (Sum.inr (Sum.inl (20, 0))), some (Sum.inl (nI (d_d2 n u a + d_d1 u a k))), some (Sum.inl (nI a)), some (Sum.inl (nI k))], [Sum.inl (u 20 0 0), Sum.inl (nI k)], (v, u, c))) rfl rfl ?_
    refine G_top hf ?_
    refine G_steps 1 (S1 := (if nI n ≤ nI k then 63 else 22, [some (Sum.inr (Sum.inl (20, 0))), some (Sum.inl (nI (d_d2 n u a + d_d1 u a k))), some (Sum.inl (nI a)), some (Sum.inl (nI k))], [], (v, u, c))) rfl rfl ?_
    refine G_iF (fun z => absurd ((nI_le' (by omega) (by omega)).mp z) (by omega)) ?_
    refine G_steps 3 (S1 := (27, [some (Sum.inr (Sum.inl (20, 0))), some (Sum.inl (nI (d_d2 n u a + d_d1 u a k))), some (Sum.inl (nI a)), some (Sum.inl (nI k))], [Sum.inl (nI a), Sum.inr (Sum.inl (21, 0))], (v, u, c))) rfl rfl ?_
    refine G_step (S1 := (28, [some (Sum.inr (Sum.inl (20, 0))), some (Sum.inl (nI (d_d2 n u a + d_d1 u a k))), some (Sum.inl (nI a)), some (Sum.inl (nI k))], [Sum.inl (u 21 0 (ix (nI a)))], (v, u, c))) rfl (ib_nI (j := a) (len := 6) (by omega) (by omega)) ?_
    rw [ix_nI (j := a) (by omega)]
    refine G_steps 1 (S1 := (if ¬ u 21 0 a = 0 then 55 else 31, [some (Sum.inr (Sum.inl (20, 0))), some (Sum.inl (nI (d_d2 n u a + d_d1 u a k))), some (Sum.inl (nI a)), some (Sum.inl (nI k))], [], (v, u, c))) rfl rfl ?_
    refine G_ifn (fun h1 => ?_) (fun h1 => ?_)
    · skip
      refine G_steps 4 (S1 := (14, [some (Sum.inr (Sum.inl (20, 0))), some (Sum.inl (nI (d_d2 n u a + d_d1 u a k))), some (Sum.inl (nI a)), some (Sum.inl ((nI k) + 1))], [], (v, u, c))) rfl rfl ?_
      exact G_is (by simp only [d_d1, nI_succ, ← Nat.add_assoc, if_neg h1]) K
    · skip
      refine G_steps 3 (S1 := (36, [some (Sum.inr (Sum.inl (20, 0))), some (Sum.inl (nI (d_d2 n u a + d_d1 u a k))), some (Sum.inl (nI a)), some (Sum.inl (nI k))], [Sum.inl (nI k), Sum.inr (Sum.inl (21, 0))], (v, u, c))) rfl rfl ?_
      refine G_step (S1 := (37, [some (Sum.inr (Sum.inl (20, 0))), some (Sum.inl (nI (d_d2 n u a + d_d1 u a k))), some (Sum.inl (nI a)), some (Sum.inl (nI k))], [Sum.inl (u 21 0 (ix (nI k)))], (v, u, c))) rfl (ib_nI (j := k) (len := 6) (by omega) (by omega)) ?_
      rw [ix_nI (j := k) (by omega)]
      refine G_steps 1 (S1 := (if ¬ u 21 0 k = 0 then 55 else 40, [some (Sum.inr (Sum.inl (20, 0))), some (Sum.inl (nI (d_d2 n u a + d_d1 u a k))), some (Sum.inl (nI a)), some (Sum.inl (nI k))], [], (v, u, c))) rfl rfl ?_
      refine G_ifn (fun h2 => ?_) (fun h2 => ?_)
      · skip
        refine G_steps 4 (S1 := (14, [some (Sum.inr (Sum.inl (20, 0))), some (Sum.inl (nI (d_d2 n u a + d_d1 u a k))), some (Sum.inl (nI a)), some (Sum.inl ((nI k) + 1))], [], (v, u, c))) rfl rfl ?_
        exact G_is (by simp only [d_d1, nI_succ, ← Nat.add_assoc, if_pos h1, if_neg h2]) K
      · skip
        refine G_steps 3 (S1 := (43, [some (Sum.inr (Sum.inl (20, 0))), some (Sum.inl (nI (d_d2 n u a + d_d1 u a k))), some (Sum.inl (nI a)), some (Sum.inl (nI k))], [Sum.inl (nI k), Sum.inl (nI a), Sum.inr (Sum.inl (20, 0))], (v, u, c))) rfl rfl ?_
        refine G_call (y := some (Sum.inl (d_st u a k))) (M1 := (v, u, c)) rfl rfl (e_m_status2 _ hn hf (by omega) (by omega)) ?_
        refine G_is (S' := (46, [some (Sum.inr (Sum.inl (20, 0))), some (Sum.inl (nI (d_d2 n u a + d_d1 u a k))), some (Sum.inl (nI a)), some (Sum.inl (nI k))], [Sum.inl (d_st u a k)], (v, u, c))) rfl ?_
        refine G_steps 1 (S1 := (if d_st u a k = 0 then 55 else 49, [some (Sum.inr (Sum.inl (20, 0))), some (Sum.inl (nI (d_d2 n u a + d_d1 u a k))), some (Sum.inl (nI a)), some (Sum.inl (nI k))], [], (v, u, c))) rfl rfl ?_
        refine G_if (fun h3 => ?_) (fun h3 => ?_)
        · skip
          refine G_steps 4 (S1 := (14, [some (Sum.inr (Sum.inl (20, 0))), some (Sum.inl (nI (d_d2 n u a + d_d1 u a k))), some (Sum.inl (nI a)), some (Sum.inl ((nI k) + 1))], [], (v, u, c))) rfl rfl ?_
          exact G_is (by simp only [d_d1, nI_succ, ← Nat.add_assoc, if_pos h1, if_pos h2, if_pos h3]) K
        · skip
          refine G_steps 3 (S1 := (52, [some (Sum.inr (Sum.inl (20, 0))), some (Sum.inl (nI (d_d2 n u a + d_d1 u a k))), some (Sum.inl (nI a)), some (Sum.inl (nI k))], [Sum.inl ((nI (d_d2 n u a + d_d1 u a k)) + 1)], (v, u, c))) rfl rfl ?_
          refine G_top ((nI_succ (d_d2 n u a + d_d1 u a k)).symm) ?_
          refine G_steps 4 (S1 := (14, [some (Sum.inr (Sum.inl (20, 0))), some (Sum.inl (nI ((d_d2 n u a + d_d1 u a k) + 1))), some (Sum.inl (nI a)), some (Sum.inl ((nI k) + 1))], [], (v, u, c))) rfl rfl ?_
          exact G_is (by simp only [d_d1, nI_succ, ← Nat.add_assoc, if_pos h1, if_pos h2, if_neg h3]) K
  · skip
    refine G_steps 3 (S1 := (19, [some (Sum.inr (Sum.inl (20, 0))), some (Sum.inl (nI (d_d2 n u a + d_d1 u a n))), some (Sum.inl (nI a)), some (Sum.inl (nI n))], [Sum.inl (u 20 0 0), Sum.inl (nI n)], (v, u, c))) rfl rfl ?_
    refine G_top hf ?_
    refine G_steps 1 (S1 := (if nI n ≤ nI n then 63 else 22, [some (Sum.inr (Sum.inl (20, 0))), some (Sum.inl (nI (d_d2 n u a + d_d1 u a n))), some (Sum.inl (nI a)), some (Sum.inl (nI n))], [], (v, u, c))) rfl rfl ?_
    refine G_iT ((nI_le' (by omega) (by omega)).mpr (Nat.le_refl _)) ?_
    refine G_steps 2 (S1 := (4, [some (Sum.inr (Sum.inl (20, 0))), some (Sum.inl (nI (d_d2 n u a + d_d1 u a n))), some (Sum.inl ((nI a) + 1)), some (Sum.inl (nI n))], [], (v, u, c))) rfl rfl ?_
    exact G_is (by simp only [d_d2, nI_succ]) K
set_option maxRecDepth 100000 in
theorem mdb_out (d : Nat) {n L : Nat} {xs : Nat → Int32} {v u : mV} {c : Nat} {a : Nat} {Z : aS → Prop} {o : Option aV} (hn : n ≤ 6) (hf : F_m n u) (ha : a < n) (K : G_o false n L xs (E_v false n L xs (d + 2)) (l_k cd_82) Z (4, [some (Sum.inr (Sum.inl (20, 0))), some (Sum.inl (nI (d_d2 n u (a + 1)))), some (Sum.inl (nI (a + 1))), some (Sum.inl (nI n))], [], (v, u, c))) : G_o false n L xs (E_v false n L xs (d + 2)) (l_k cd_82) Z (4, [some (Sum.inr (Sum.inl (20, 0))), some (Sum.inl (nI (d_d2 n u a))), some (Sum.inl (nI a)), o], [], (v, u, c)) := by
  refine G_steps 3 (S1 := (9, [some (Sum.inr (Sum.inl (20, 0))), some (Sum.inl (nI (d_d2 n u a))), some (Sum.inl (nI a)), o], [Sum.inl (u 20 0 0), Sum.inl (nI a)], (v, u, c))) rfl rfl ?_
  refine G_top hf ?_
  refine G_steps 1 (S1 := (if nI n ≤ nI a then 69 else 12, [some (Sum.inr (Sum.inl (20, 0))), some (Sum.inl (nI (d_d2 n u a))), some (Sum.inl (nI a)), o], [], (v, u, c))) rfl rfl ?_
  refine G_iF (fun z => absurd ((nI_le' (by omega) (by omega)).mp z) (by omega)) ?_
  refine G_steps 2 (S1 := (14, [some (Sum.inr (Sum.inl (20, 0))), some (Sum.inl (nI (d_d2 n u a))), some (Sum.inl (nI a)), some (Sum.inl 0)], [], (v, u, c))) rfl rfl ?_
  exact G_is rfl (mdb_in d hn hf ha K)
set_option maxRecDepth 100000 in
theorem e_m_doubted (d : Nat) {n L : Nat} {xs : Nat → Int32} {v u : mV} {c : Nat} (hn : n ≤ 6) (hf : F_m n u) (hn0 : 0 < n) : E_v false n L xs (d + 3) 82 [Sum.inr (Sum.inl (20, 0))] (v, u, c) (some (Sum.inl (nI (d_d2 n u n)))) (v, u, c) := by
  refine E_mk mc_82 (by decide) ?_
  refine G_steps 4 (S1 := (4, [some (Sum.inr (Sum.inl (20, 0))), some (Sum.inl (nI (d_d2 n u 0))), some (Sum.inl (nI 0)), none], [], (v, u, c))) rfl rfl ?_
  refine mdb_out d hn hf hn0 ?_
  have key : ∀ j, j < n → G_o false n L xs (E_v false n L xs (d + 2)) (l_k cd_82) (fun S1 => r_F (l_k cd_82) S1 = some (true, some (Sum.inl (nI (d_d2 n u n))), (v, u, c))) (4, [some (Sum.inr (Sum.inl (20, 0))), some (Sum.inl (nI (d_d2 n u (n - j)))), some (Sum.inl (nI (n - j))), some (Sum.inl (nI n))], [], (v, u, c)) := by
    intro j
    induction j with
    | zero =>
      intro hj
      rw [Nat.sub_zero]
      refine G_steps 3 (S1 := (9, [some (Sum.inr (Sum.inl (20, 0))), some (Sum.inl (nI (d_d2 n u n))), some (Sum.inl (nI n)), some (Sum.inl (nI n))], [Sum.inl (u 20 0 0), Sum.inl (nI n)], (v, u, c))) rfl rfl ?_
      refine G_top hf ?_
      refine G_steps 1 (S1 := (if nI n ≤ nI n then 69 else 12, [some (Sum.inr (Sum.inl (20, 0))), some (Sum.inl (nI (d_d2 n u n))), some (Sum.inl (nI n)), some (Sum.inl (nI n))], [], (v, u, c))) rfl rfl ?_
      refine G_iT ((nI_le' (by omega) (by omega)).mpr (Nat.le_refl _)) ?_
      refine G_steps 1 (S1 := (70, [some (Sum.inr (Sum.inl (20, 0))), some (Sum.inl (nI (d_d2 n u n))), some (Sum.inl (nI n)), some (Sum.inl (nI n))], [Sum.inl (nI (d_d2 n u n))], (v, u, c))) rfl rfl ?_
      exact G_fin rfl rfl rfl
    | succ j ih =>
      intro hj
      refine mdb_out d hn hf (by omega) ?_
      rw [show n - (j + 1) + 1 = n - j by omega]
      exact ih (by omega)
  have h1 := key (n - 1) (by omega)
  rw [show n - (n - 1) = 0 + 1 by omega] at h1
  exact h1
