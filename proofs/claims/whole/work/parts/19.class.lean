theorem in_1 {n a : Nat} (hn : n ≤ 6) (ha : a < n) : c_in n (nI a) = 1 := by
  unfold c_in
  rw [if_neg (nI_pos (by omega)), if_neg (fun z => absurd ((nI_le' (by omega) (by omega)).mp z) (by omega))]
theorem in_0 {n : Nat} {x : Int32} (hn : n ≤ 6) (h : ¬ c_in n x = 0) : ∃ a, a < n ∧ x = nI a := by
  unfold c_in at h
  split at h
  · exact absurd rfl h
  · rename_i h1
    split at h
    · exact absurd rfl h
    · rename_i h2
      have h3 : 0 ≤ x.toInt := by
        rw [Int32.lt_iff_toInt_lt] at h1
        simpa using h1
      refine ⟨ix x, ?_, ?_⟩
      · have e : x = nI (ix x) := by
          apply Int32.toInt_inj.mp
          rw [nI_toInt (by unfold ix; have := x.toInt_lt; have e2 : (x.toNatClampNeg : Int) = x.toInt := Int.toNat_of_nonneg h3; omega)]
          exact (Int.toNat_of_nonneg h3).symm
        rcases Nat.lt_or_ge (ix x) n with z | z
        · exact z
        · refine absurd ?_ h2
          rw [e]
          exact nI_le z (by unfold ix; have := x.toInt_lt; have e2 : (x.toNatClampNeg : Int) = x.toInt := Int.toNat_of_nonneg h3; omega)
      · apply Int32.toInt_inj.mp
        rw [nI_toInt (by unfold ix; have := x.toInt_lt; have e2 : (x.toNatClampNeg : Int) = x.toInt := Int.toNat_of_nonneg h3; omega)]
        exact (Int.toNat_of_nonneg h3).symm
theorem has_1 {z k : Nat} (hz : z ≤ 24) (hk : k < z) : c_has z (nI k) = 1 := by
  unfold c_has
  rw [if_neg (nI_pos (by omega)), if_neg (fun q => absurd ((nI_le' (by omega) (by omega)).mp q) (by omega))]
theorem has_in {z : Nat} {x : Int32} : c_has z x = c_in z x := rfl
theorem has_0 {z : Nat} {x : Int32} (hz : z ≤ 24) (h : ¬ c_has z x = 0) : ∃ k, k < z ∧ x = nI k := by
  unfold c_has at h
  split at h
  · exact absurd rfl h
  · rename_i h1
    split at h
    · exact absurd rfl h
    · rename_i h2
      have h3 : 0 ≤ x.toInt := by
        rw [Int32.lt_iff_toInt_lt] at h1
        simpa using h1
      have e : x = nI (ix x) := by
        apply Int32.toInt_inj.mp
        rw [nI_toInt (by unfold ix; have := x.toInt_lt; have e2 : (x.toNatClampNeg : Int) = x.toInt := Int.toNat_of_nonneg h3; omega)]
        exact (Int.toNat_of_nonneg h3).symm
      refine ⟨ix x, ?_, e⟩
      rcases Nat.lt_or_ge (ix x) z with q | q
      · exact q
      · refine absurd ?_ h2
        rw [e]
        exact nI_le q (by unfold ix; have := x.toInt_lt; have e2 : (x.toNatClampNeg : Int) = x.toInt := Int.toNat_of_nonneg h3; omega)
def c_up (v : mV) (a : Nat) : Int32 := if v 4 a 6 = 0 then 0 else 1
set_option maxRecDepth 100000 in
theorem e_isUp0 (d : Nat) {n L : Nat} {xs : Nat → Int32} {v u : mV} {c : Nat} {x : Int32} (hn : n ≤ 6) (hf : F_n n v) (hx : c_in n x = 0) : E_v false n L xs (d + 2) 6 [Sum.inr (Sum.inl (0, 0)), Sum.inl x] (v, u, c) (some (Sum.inl 0)) (v, u, c) := by
  refine E_mk mc_6 (by decide) ?_
  refine G_steps 2 (S1 := (2, [some (Sum.inr (Sum.inl (0, 0))), some (Sum.inl x)], [Sum.inl x, Sum.inr (Sum.inl (0, 0))], (v, u, c))) rfl rfl ?_
  refine G_call (y := some (Sum.inl (c_in n x))) (M1 := (v, u, c)) rfl rfl (e_isNode _ hf) ?_
  refine G_is (S' := (5, [some (Sum.inr (Sum.inl (0, 0))), some (Sum.inl x)], [Sum.inl (c_in n x)], (v, u, c))) rfl ?_
  refine G_top hx ?_
  refine G_steps 1 (S1 := (if 0 = 0 then 24 else 8, [some (Sum.inr (Sum.inl (0, 0))), some (Sum.inl x)], [], (v, u, c))) rfl rfl ?_
  refine G_iT rfl ?_
  refine G_steps 1 (S1 := (25, [some (Sum.inr (Sum.inl (0, 0))), some (Sum.inl x)], [Sum.inl 0], (v, u, c))) rfl rfl ?_
  exact G_fin rfl rfl rfl
set_option maxRecDepth 100000 in
theorem e_isUp1 (d : Nat) {n L : Nat} {xs : Nat → Int32} {v u : mV} {c : Nat} {a : Nat} (hn : n ≤ 6) (hc : c = (K_T n).length) (hf : F_n n v) (ha : a < n) : E_v false n L xs (d + 2) 6 [Sum.inr (Sum.inl (0, 0)), Sum.inl (nI a)] (v, u, c) (some (Sum.inl (c_up v a))) (v, u, c) := by
  refine E_mk mc_6 (by decide) ?_
  refine G_steps 2 (S1 := (2, [some (Sum.inr (Sum.inl (0, 0))), some (Sum.inl (nI a))], [Sum.inl (nI a), Sum.inr (Sum.inl (0, 0))], (v, u, c))) rfl rfl ?_
  refine G_call (y := some (Sum.inl (c_in n (nI a)))) (M1 := (v, u, c)) rfl rfl (e_isNode _ hf) ?_
  refine G_is (S' := (5, [some (Sum.inr (Sum.inl (0, 0))), some (Sum.inl (nI a))], [Sum.inl (c_in n (nI a))], (v, u, c))) rfl ?_
  refine G_top (in_1 hn ha) ?_
  refine G_steps 1 (S1 := (if 1 = 0 then 24 else 8, [some (Sum.inr (Sum.inl (0, 0))), some (Sum.inl (nI a))], [], (v, u, c))) rfl rfl ?_
  refine G_iF (by decide) ?_
  refine G_steps 3 (S1 := (13, [some (Sum.inr (Sum.inl (0, 0))), some (Sum.inl (nI a))], [Sum.inl (nI a), Sum.inr (Sum.inl (1, 0))], (v, u, c))) rfl rfl ?_
  refine G_step (S1 := (14, [some (Sum.inr (Sum.inl (0, 0))), some (Sum.inl (nI a))], [Sum.inr (Sum.inl (4, ix (nI a)))], (v, u, c))) rfl (ald_n' (n := n) (a := a) hn (by omega) hc) ?_
  rw [ix_nI (j := a) (by omega)]
  refine G_steps 2 (S1 := (if v 4 a 6 = 0 then 24 else 20, [some (Sum.inr (Sum.inl (0, 0))), some (Sum.inl (nI a))], [], (v, u, c))) rfl rfl ?_
  refine G_if (fun h1 => ?_) (fun h1 => ?_)
  · skip
    refine G_steps 1 (S1 := (25, [some (Sum.inr (Sum.inl (0, 0))), some (Sum.inl (nI a))], [Sum.inl 0], (v, u, c))) rfl rfl ?_
    exact G_fin rfl (by simp only [c_up, if_pos h1]) rfl
  · skip
    refine G_steps 2 (S1 := (25, [some (Sum.inr (Sum.inl (0, 0))), some (Sum.inl (nI a))], [Sum.inl 1], (v, u, c))) rfl rfl ?_
    exact G_fin rfl (by simp only [c_up, if_neg h1]) rfl
set_option maxRecDepth 100000 in
theorem e_period0 (d : Nat) {n L : Nat} {xs : Nat → Int32} {v u : mV} {c : Nat} {x : Int32} (hn : n ≤ 6) (hc : c = (K_T n).length) (hw : W_C n v) (hx : c_in n x = 0) : E_v false n L xs (d + 3) 5 [Sum.inr (Sum.inl (0, 0)), Sum.inl x] (v, u, c) (some (Sum.inl (-1))) (v, u, c) := by
  refine E_mk mc_5 (by decide) ?_
  refine G_steps 2 (S1 := (2, [some (Sum.inr (Sum.inl (0, 0))), some (Sum.inl x)], [Sum.inl x, Sum.inr (Sum.inl (0, 0))], (v, u, c))) rfl rfl ?_
  refine G_call (y := some (Sum.inl 0)) (M1 := (v, u, c)) rfl rfl (e_isUp0 _ hn hw.1 hx) ?_
  refine G_is (S' := (5, [some (Sum.inr (Sum.inl (0, 0))), some (Sum.inl x)], [Sum.inl 0], (v, u, c))) rfl ?_
  refine G_steps 1 (S1 := (if ¬ 0 = 0 then 10 else 8, [some (Sum.inr (Sum.inl (0, 0))), some (Sum.inl x)], [], (v, u, c))) rfl rfl ?_
  refine G_nF rfl ?_
  refine G_steps 1 (S1 := (9, [some (Sum.inr (Sum.inl (0, 0))), some (Sum.inl x)], [Sum.inl (-1)], (v, u, c))) rfl rfl ?_
  exact G_fin rfl rfl rfl
set_option maxRecDepth 100000 in
theorem e_period1 (d : Nat) {n L : Nat} {xs : Nat → Int32} {v u : mV} {c : Nat} {a : Nat} (hn : n ≤ 6) (hc : c = (K_T n).length) (hw : W_C n v) (ha : a < n) (hu : v 4 a 6 = 0) : E_v false n L xs (d + 3) 5 [Sum.inr (Sum.inl (0, 0)), Sum.inl (nI a)] (v, u, c) (some (Sum.inl (-1))) (v, u, c) := by
  refine E_mk mc_5 (by decide) ?_
  refine G_steps 2 (S1 := (2, [some (Sum.inr (Sum.inl (0, 0))), some (Sum.inl (nI a))], [Sum.inl (nI a), Sum.inr (Sum.inl (0, 0))], (v, u, c))) rfl rfl ?_
  refine G_call (y := some (Sum.inl (c_up v a))) (M1 := (v, u, c)) rfl rfl (e_isUp1 _ hn hc hw.1 ha) ?_
  refine G_is (S' := (5, [some (Sum.inr (Sum.inl (0, 0))), some (Sum.inl (nI a))], [Sum.inl (c_up v a)], (v, u, c))) rfl ?_
  refine G_top (if_pos hu) ?_
  refine G_steps 1 (S1 := (if ¬ 0 = 0 then 10 else 8, [some (Sum.inr (Sum.inl (0, 0))), some (Sum.inl (nI a))], [], (v, u, c))) rfl rfl ?_
  refine G_nF rfl ?_
  refine G_steps 1 (S1 := (9, [some (Sum.inr (Sum.inl (0, 0))), some (Sum.inl (nI a))], [Sum.inl (-1)], (v, u, c))) rfl rfl ?_
  exact G_fin rfl rfl rfl
set_option maxRecDepth 100000 in
theorem e_period2 (d : Nat) {n L : Nat} {xs : Nat → Int32} {v u : mV} {c : Nat} {a : Nat} (hn : n ≤ 6) (hc : c = (K_T n).length) (hw : W_C n v) (ha : a < n) (hu : ¬ v 4 a 6 = 0) (hN : N_C n v a) : E_v false n L xs (d + 5) 5 [Sum.inr (Sum.inl (0, 0)), Sum.inl (nI a)] (v, u, c) (some (Sum.inl (oI (c_mo n v a)))) (c_mp n v a, u, c) := by
  refine E_mk mc_5 (by decide) ?_
  refine G_steps 2 (S1 := (2, [some (Sum.inr (Sum.inl (0, 0))), some (Sum.inl (nI a))], [Sum.inl (nI a), Sum.inr (Sum.inl (0, 0))], (v, u, c))) rfl rfl ?_
  refine G_call (y := some (Sum.inl (c_up v a))) (M1 := (v, u, c)) rfl rfl (e_isUp1 _ hn hc hw.1 ha) ?_
  refine G_is (S' := (5, [some (Sum.inr (Sum.inl (0, 0))), some (Sum.inl (nI a))], [Sum.inl (c_up v a)], (v, u, c))) rfl ?_
  refine G_top (if_neg hu) ?_
  refine G_steps 1 (S1 := (if ¬ 1 = 0 then 10 else 8, [some (Sum.inr (Sum.inl (0, 0))), some (Sum.inl (nI a))], [], (v, u, c))) rfl rfl ?_
  refine G_nT (by decide) ?_
  refine G_steps 4 (S1 := (16, [some (Sum.inr (Sum.inl (0, 0))), some (Sum.inl (nI a))], [Sum.inl (nI a), Sum.inr (Sum.inl (1, 0)), Sum.inr (Sum.inl (0, 0))], (v, u, c))) rfl rfl ?_
  refine G_step (S1 := (17, [some (Sum.inr (Sum.inl (0, 0))), some (Sum.inl (nI a))], [Sum.inr (Sum.inl (4, ix (nI a))), Sum.inr (Sum.inl (0, 0))], (v, u, c))) rfl (ald_n' (n := n) (a := a) hn (by omega) hc) ?_
  rw [ix_nI (j := a) (by omega)]
  refine G_call (y := some (Sum.inl (oI (c_mo n v a)))) (M1 := (c_mp n v a, u, c)) rfl rfl (e_makePeriod _ hn hc hw ha hN) ?_
  refine G_is (S' := (20, [some (Sum.inr (Sum.inl (0, 0))), some (Sum.inl (nI a))], [Sum.inl (oI (c_mo n v a))], (c_mp n v a, u, c))) rfl ?_
  exact G_fin rfl rfl rfl
set_option maxRecDepth 100000 in
theorem e_help0 (d : Nat) {n L : Nat} {xs : Nat → Int32} {v u : mV} {c : Nat} {x : Int32} (hn : n ≤ 6) (hc : c = (K_T n).length) (hw : W_C n v) (hx : c_in n x = 0) : E_v false n L xs (d + 3) 22 [Sum.inr (Sum.inl (0, 0)), Sum.inl x] (v, u, c) (some (Sum.inl (-1))) (v, u, c) := by
  refine E_mk mc_22 (by decide) ?_
  refine G_steps 2 (S1 := (2, [some (Sum.inr (Sum.inl (0, 0))), some (Sum.inl x)], [Sum.inl x, Sum.inr (Sum.inl (0, 0))], (v, u, c))) rfl rfl ?_
  refine G_call (y := some (Sum.inl 0)) (M1 := (v, u, c)) rfl rfl (e_isUp0 _ hn hw.1 hx) ?_
  refine G_is (S' := (5, [some (Sum.inr (Sum.inl (0, 0))), some (Sum.inl x)], [Sum.inl 0], (v, u, c))) rfl ?_
  refine G_steps 1 (S1 := (if 0 = 0 then 20 else 8, [some (Sum.inr (Sum.inl (0, 0))), some (Sum.inl x)], [], (v, u, c))) rfl rfl ?_
  refine G_iT rfl ?_
  refine G_steps 1 (S1 := (21, [some (Sum.inr (Sum.inl (0, 0))), some (Sum.inl x)], [Sum.inl (-1)], (v, u, c))) rfl rfl ?_
  exact G_fin rfl rfl rfl
set_option maxRecDepth 100000 in
theorem e_help1 (d : Nat) {n L : Nat} {xs : Nat → Int32} {v u : mV} {c : Nat} {a : Nat} (hn : n ≤ 6) (hc : c = (K_T n).length) (hw : W_C n v) (ha : a < n) (hu : v 4 a 6 = 0) : E_v false n L xs (d + 3) 22 [Sum.inr (Sum.inl (0, 0)), Sum.inl (nI a)] (v, u, c) (some (Sum.inl (-1))) (v, u, c) := by
  refine E_mk mc_22 (by decide) ?_
  refine G_steps 2 (S1 := (2, [some (Sum.inr (Sum.inl (0, 0))), some (Sum.inl (nI a))], [Sum.inl (nI a), Sum.inr (Sum.inl (0, 0))], (v, u, c))) rfl rfl ?_
  refine G_call (y := some (Sum.inl (c_up v a))) (M1 := (v, u, c)) rfl rfl (e_isUp1 _ hn hc hw.1 ha) ?_
  refine G_is (S' := (5, [some (Sum.inr (Sum.inl (0, 0))), some (Sum.inl (nI a))], [Sum.inl (c_up v a)], (v, u, c))) rfl ?_
  refine G_top (if_pos hu) ?_
  refine G_steps 1 (S1 := (if 0 = 0 then 20 else 8, [some (Sum.inr (Sum.inl (0, 0))), some (Sum.inl (nI a))], [], (v, u, c))) rfl rfl ?_
  refine G_iT rfl ?_
  refine G_steps 1 (S1 := (21, [some (Sum.inr (Sum.inl (0, 0))), some (Sum.inl (nI a))], [Sum.inl (-1)], (v, u, c))) rfl rfl ?_
  exact G_fin rfl rfl rfl
set_option maxRecDepth 100000 in
theorem e_help2 (d : Nat) {n L : Nat} {xs : Nat → Int32} {v u : mV} {c : Nat} {a : Nat} (hn : n ≤ 6) (hc : c = (K_T n).length) (hw : W_C n v) (ha : a < n) (hu : ¬ v 4 a 6 = 0) (hwt : c_wt v a = 0) : E_v false n L xs (d + 3) 22 [Sum.inr (Sum.inl (0, 0)), Sum.inl (nI a)] (v, u, c) (some (Sum.inl (-1))) (v, u, c) := by
  refine E_mk mc_22 (by decide) ?_
  refine G_steps 2 (S1 := (2, [some (Sum.inr (Sum.inl (0, 0))), some (Sum.inl (nI a))], [Sum.inl (nI a), Sum.inr (Sum.inl (0, 0))], (v, u, c))) rfl rfl ?_
  refine G_call (y := some (Sum.inl (c_up v a))) (M1 := (v, u, c)) rfl rfl (e_isUp1 _ hn hc hw.1 ha) ?_
  refine G_is (S' := (5, [some (Sum.inr (Sum.inl (0, 0))), some (Sum.inl (nI a))], [Sum.inl (c_up v a)], (v, u, c))) rfl ?_
  refine G_top (if_neg hu) ?_
  refine G_steps 1 (S1 := (if 1 = 0 then 20 else 8, [some (Sum.inr (Sum.inl (0, 0))), some (Sum.inl (nI a))], [], (v, u, c))) rfl rfl ?_
  refine G_iF (by decide) ?_
  refine G_steps 3 (S1 := (13, [some (Sum.inr (Sum.inl (0, 0))), some (Sum.inl (nI a))], [Sum.inl (nI a), Sum.inr (Sum.inl (1, 0))], (v, u, c))) rfl rfl ?_
  refine G_step (S1 := (14, [some (Sum.inr (Sum.inl (0, 0))), some (Sum.inl (nI a))], [Sum.inr (Sum.inl (4, ix (nI a)))], (v, u, c))) rfl (ald_n' (n := n) (a := a) hn (by omega) hc) ?_
  rw [ix_nI (j := a) (by omega)]
  refine G_call (y := some (Sum.inl (c_wt v a))) (M1 := (v, u, c)) rfl rfl (e_waits _) ?_
  refine G_is (S' := (17, [some (Sum.inr (Sum.inl (0, 0))), some (Sum.inl (nI a))], [Sum.inl (c_wt v a)], (v, u, c))) rfl ?_
  refine G_top hwt ?_
  refine G_steps 1 (S1 := (if ¬ 0 = 0 then 22 else 20, [some (Sum.inr (Sum.inl (0, 0))), some (Sum.inl (nI a))], [], (v, u, c))) rfl rfl ?_
  refine G_nF rfl ?_
  refine G_steps 1 (S1 := (21, [some (Sum.inr (Sum.inl (0, 0))), some (Sum.inl (nI a))], [Sum.inl (-1)], (v, u, c))) rfl rfl ?_
  exact G_fin rfl rfl rfl
set_option maxRecDepth 100000 in
theorem e_help3 (d : Nat) {n L : Nat} {xs : Nat → Int32} {v u : mV} {c : Nat} {a t : Nat} (hn : n ≤ 6) (hc : c = (K_T n).length) (hw : W_C n v) (ha : a < n) (hu : ¬ v 4 a 6 = 0) (hwt : c_wt v a = 1) (ht : t < n) (hto : v 4 a 9 = nI t) : E_v false n L xs (d + 5) 22 [Sum.inr (Sum.inl (0, 0)), Sum.inl (nI a)] (v, u, c) (some (Sum.inl (nI (c_ask n a (n - 1) t 0 v).1))) ((c_ask n a (n - 1) t 0 v).2, u, c) := by
  refine E_mk mc_22 (by decide) ?_
  refine G_steps 2 (S1 := (2, [some (Sum.inr (Sum.inl (0, 0))), some (Sum.inl (nI a))], [Sum.inl (nI a), Sum.inr (Sum.inl (0, 0))], (v, u, c))) rfl rfl ?_
  refine G_call (y := some (Sum.inl (c_up v a))) (M1 := (v, u, c)) rfl rfl (e_isUp1 _ hn hc hw.1 ha) ?_
  refine G_is (S' := (5, [some (Sum.inr (Sum.inl (0, 0))), some (Sum.inl (nI a))], [Sum.inl (c_up v a)], (v, u, c))) rfl ?_
  refine G_top (if_neg hu) ?_
  refine G_steps 1 (S1 := (if 1 = 0 then 20 else 8, [some (Sum.inr (Sum.inl (0, 0))), some (Sum.inl (nI a))], [], (v, u, c))) rfl rfl ?_
  refine G_iF (by decide) ?_
  refine G_steps 3 (S1 := (13, [some (Sum.inr (Sum.inl (0, 0))), some (Sum.inl (nI a))], [Sum.inl (nI a), Sum.inr (Sum.inl (1, 0))], (v, u, c))) rfl rfl ?_
  refine G_step (S1 := (14, [some (Sum.inr (Sum.inl (0, 0))), some (Sum.inl (nI a))], [Sum.inr (Sum.inl (4, ix (nI a)))], (v, u, c))) rfl (ald_n' (n := n) (a := a) hn (by omega) hc) ?_
  rw [ix_nI (j := a) (by omega)]
  refine G_call (y := some (Sum.inl (c_wt v a))) (M1 := (v, u, c)) rfl rfl (e_waits _) ?_
  refine G_is (S' := (17, [some (Sum.inr (Sum.inl (0, 0))), some (Sum.inl (nI a))], [Sum.inl (c_wt v a)], (v, u, c))) rfl ?_
  refine G_top hwt ?_
  refine G_steps 1 (S1 := (if ¬ 1 = 0 then 22 else 20, [some (Sum.inr (Sum.inl (0, 0))), some (Sum.inl (nI a))], [], (v, u, c))) rfl rfl ?_
  refine G_nT (by decide) ?_
  refine G_steps 4 (S1 := (28, [some (Sum.inr (Sum.inl (0, 0))), some (Sum.inl (nI a))], [Sum.inl (nI a), Sum.inr (Sum.inl (1, 0)), Sum.inr (Sum.inl (0, 0))], (v, u, c))) rfl rfl ?_
  refine G_step (S1 := (29, [some (Sum.inr (Sum.inl (0, 0))), some (Sum.inl (nI a))], [Sum.inr (Sum.inl (4, ix (nI a))), Sum.inr (Sum.inl (0, 0))], (v, u, c))) rfl (ald_n' (n := n) (a := a) hn (by omega) hc) ?_
  rw [ix_nI (j := a) (by omega)]
  refine G_call (y := some (Sum.inl (nI (c_ask n a (n - 1) t 0 v).1))) (M1 := ((c_ask n a (n - 1) t 0 v).2, u, c)) rfl rfl (e_askForHelp _ hn hc hw ha ht hto) ?_
  refine G_is (S' := (32, [some (Sum.inr (Sum.inl (0, 0))), some (Sum.inl (nI a))], [Sum.inl (nI (c_ask n a (n - 1) t 0 v).1)], ((c_ask n a (n - 1) t 0 v).2, u, c))) rfl ?_
  exact G_fin rfl rfl rfl
set_option maxRecDepth 100000 in
theorem e_deliver0 (d : Nat) {n L : Nat} {xs : Nat → Int32} {v u : mV} {c : Nat} {x : Int32} (hn : n ≤ 6) (hc : c = (K_T n).length) (hw : W_C n v) (hx : c_has (zz v) x = 0) : E_v false n L xs (d + 2) 25 [Sum.inr (Sum.inl (0, 0)), Sum.inl x] (v, u, c) (some (Sum.inl (-1))) (v, u, c) := by
  refine E_mk mc_25 (by decide) ?_
  refine G_steps 3 (S1 := (5, [some (Sum.inr (Sum.inl (0, 0))), some (Sum.inl x)], [Sum.inl x, Sum.inr (Sum.inl (2, 0))], (v, u, c))) rfl rfl ?_
  refine G_call (y := some (Sum.inl (c_has (zz v) x))) (M1 := (v, u, c)) rfl rfl (e_has _ hw.2.1.1) ?_
  refine G_is (S' := (8, [some (Sum.inr (Sum.inl (0, 0))), some (Sum.inl x)], [Sum.inl (c_has (zz v) x)], (v, u, c))) rfl ?_
  refine G_top hx ?_
  refine G_steps 1 (S1 := (if ¬ 0 = 0 then 13 else 11, [some (Sum.inr (Sum.inl (0, 0))), some (Sum.inl x)], [], (v, u, c))) rfl rfl ?_
  refine G_nF rfl ?_
  refine G_steps 1 (S1 := (12, [some (Sum.inr (Sum.inl (0, 0))), some (Sum.inl x)], [Sum.inl (-1)], (v, u, c))) rfl rfl ?_
  exact G_fin rfl rfl rfl
set_option maxRecDepth 100000 in
theorem e_deliver1 (d : Nat) {n L : Nat} {xs : Nat → Int32} {v u : mV} {c : Nat} {k : Nat} (hn : n ≤ 6) (hc : c = (K_T n).length) (hw : W_C n v) (hk : k < zz v) (hm : M_C n v (gg v k)) (hj : ∀ i j, i < 25 → j < 25 → gg v i = gg v j → i = j) : E_v false n L xs (d + 6) 25 [Sum.inr (Sum.inl (0, 0)), Sum.inl (nI k)] (v, u, c) (some (Sum.inl (v 12 (gg v k) 0))) (c_arr n v k, u, c) := by
  refine E_mk mc_25 (by decide) ?_
  refine G_steps 3 (S1 := (5, [some (Sum.inr (Sum.inl (0, 0))), some (Sum.inl (nI k))], [Sum.inl (nI k), Sum.inr (Sum.inl (2, 0))], (v, u, c))) rfl rfl ?_
  refine G_call (y := some (Sum.inl (c_has (zz v) (nI k)))) (M1 := (v, u, c)) rfl rfl (e_has _ hw.2.1.1) ?_
  refine G_is (S' := (8, [some (Sum.inr (Sum.inl (0, 0))), some (Sum.inl (nI k))], [Sum.inl (c_has (zz v) (nI k))], (v, u, c))) rfl ?_
  refine G_top (has_1 hw.2.1.2 hk) ?_
  refine G_steps 1 (S1 := (if ¬ 1 = 0 then 13 else 11, [some (Sum.inr (Sum.inl (0, 0))), some (Sum.inl (nI k))], [], (v, u, c))) rfl rfl ?_
  refine G_nT (by decide) ?_
  refine G_steps 2 (S1 := (15, [some (Sum.inr (Sum.inl (0, 0))), some (Sum.inl (nI k))], [Sum.inl (nI k), Sum.inr (Sum.inl (0, 0))], (v, u, c))) rfl rfl ?_
  refine G_call (y := some (Sum.inl (v 12 (gg v k) 0))) (M1 := (c_arr n v k, u, c)) rfl rfl (e_arrive _ hn hc hw hk hm hj) ?_
  refine G_is (S' := (18, [some (Sum.inr (Sum.inl (0, 0))), some (Sum.inl (nI k))], [Sum.inl (v 12 (gg v k) 0)], (c_arr n v k, u, c))) rfl ?_
  exact G_fin rfl rfl rfl
set_option maxRecDepth 100000 in
theorem e_lose0 (d : Nat) {n L : Nat} {xs : Nat → Int32} {v u : mV} {c : Nat} {x : Int32} (hn : n ≤ 6) (hc : c = (K_T n).length) (hw : W_C n v) (hx : c_has (zz v) x = 0) : E_v false n L xs (d + 2) 34 [Sum.inr (Sum.inl (0, 0)), Sum.inl x] (v, u, c) (some (Sum.inl 0)) (v, u, c) := by
  refine E_mk mc_34 (by decide) ?_
  refine G_steps 3 (S1 := (5, [some (Sum.inr (Sum.inl (0, 0))), some (Sum.inl x)], [Sum.inl x, Sum.inr (Sum.inl (2, 0))], (v, u, c))) rfl rfl ?_
  refine G_call (y := some (Sum.inl (c_has (zz v) x))) (M1 := (v, u, c)) rfl rfl (e_has _ hw.2.1.1) ?_
  refine G_is (S' := (8, [some (Sum.inr (Sum.inl (0, 0))), some (Sum.inl x)], [Sum.inl (c_has (zz v) x)], (v, u, c))) rfl ?_
  refine G_top hx ?_
  refine G_steps 1 (S1 := (if ¬ 0 = 0 then 13 else 11, [some (Sum.inr (Sum.inl (0, 0))), some (Sum.inl x)], [], (v, u, c))) rfl rfl ?_
  refine G_nF rfl ?_
  refine G_steps 1 (S1 := (12, [some (Sum.inr (Sum.inl (0, 0))), some (Sum.inl x)], [Sum.inl 0], (v, u, c))) rfl rfl ?_
  exact G_fin rfl rfl rfl
set_option maxRecDepth 100000 in
theorem e_lose1 (d : Nat) {n L : Nat} {xs : Nat → Int32} {v u : mV} {c : Nat} {k : Nat} (hn : n ≤ 6) (hc : c = (K_T n).length) (hw : W_C n v) (hk : k < zz v) (hz1 : v 2 0 1 = nI (zz v - 1 + 1)) : E_v false n L xs (d + 2) 34 [Sum.inr (Sum.inl (0, 0)), Sum.inl (nI k)] (v, u, c) (some (Sum.inl 1)) (c_tk v (gg v) k (zz v - 1), u, c) := by
  refine E_mk mc_34 (by decide) ?_
  refine G_steps 3 (S1 := (5, [some (Sum.inr (Sum.inl (0, 0))), some (Sum.inl (nI k))], [Sum.inl (nI k), Sum.inr (Sum.inl (2, 0))], (v, u, c))) rfl rfl ?_
  refine G_call (y := some (Sum.inl (c_has (zz v) (nI k)))) (M1 := (v, u, c)) rfl rfl (e_has _ hw.2.1.1) ?_
  refine G_is (S' := (8, [some (Sum.inr (Sum.inl (0, 0))), some (Sum.inl (nI k))], [Sum.inl (c_has (zz v) (nI k))], (v, u, c))) rfl ?_
  refine G_top (has_1 hw.2.1.2 hk) ?_
  refine G_steps 1 (S1 := (if ¬ 1 = 0 then 13 else 11, [some (Sum.inr (Sum.inl (0, 0))), some (Sum.inl (nI k))], [], (v, u, c))) rfl rfl ?_
  refine G_nT (by decide) ?_
  refine G_steps 3 (S1 := (18, [some (Sum.inr (Sum.inl (0, 0))), some (Sum.inl (nI k))], [Sum.inl (nI k), Sum.inr (Sum.inl (2, 0))], (v, u, c))) rfl rfl ?_
  refine G_call (y := some (Sum.inr (Sum.inl (12, gg v k)))) (M1 := (c_tk v (gg v) k (zz v - 1), u, c)) rfl rfl (e_takeOut _ hn hc hw.2.2 (by have := hw.2.1.2; omega) hz1 (by have := hw.2.1.2; omega)) ?_
  refine G_is (S' := (21, [some (Sum.inr (Sum.inl (0, 0))), some (Sum.inl (nI k))], [Sum.inr (Sum.inl (12, gg v k))], (c_tk v (gg v) k (zz v - 1), u, c))) rfl ?_
  refine G_steps 2 (S1 := (23, [some (Sum.inr (Sum.inl (0, 0))), some (Sum.inl (nI k))], [Sum.inl 1], (c_tk v (gg v) k (zz v - 1), u, c))) rfl rfl ?_
  exact G_fin rfl rfl rfl
set_option maxRecDepth 100000 in
theorem e_stop0 (d : Nat) {n L : Nat} {xs : Nat → Int32} {v u : mV} {c : Nat} {x : Int32} (hn : n ≤ 6) (hc : c = (K_T n).length) (hw : W_C n v) (hx : c_in n x = 0) : E_v false n L xs (d + 3) 37 [Sum.inr (Sum.inl (0, 0)), Sum.inl x] (v, u, c) (some (Sum.inl 0)) (v, u, c) := by
  refine E_mk mc_37 (by decide) ?_
  refine G_steps 2 (S1 := (2, [some (Sum.inr (Sum.inl (0, 0))), some (Sum.inl x)], [Sum.inl x, Sum.inr (Sum.inl (0, 0))], (v, u, c))) rfl rfl ?_
  refine G_call (y := some (Sum.inl 0)) (M1 := (v, u, c)) rfl rfl (e_isUp0 _ hn hw.1 hx) ?_
  refine G_is (S' := (5, [some (Sum.inr (Sum.inl (0, 0))), some (Sum.inl x)], [Sum.inl 0], (v, u, c))) rfl ?_
  refine G_steps 1 (S1 := (if ¬ 0 = 0 then 10 else 8, [some (Sum.inr (Sum.inl (0, 0))), some (Sum.inl x)], [], (v, u, c))) rfl rfl ?_
  refine G_nF rfl ?_
  refine G_steps 1 (S1 := (9, [some (Sum.inr (Sum.inl (0, 0))), some (Sum.inl x)], [Sum.inl 0], (v, u, c))) rfl rfl ?_
  exact G_fin rfl rfl rfl
set_option maxRecDepth 100000 in
theorem e_stop1 (d : Nat) {n L : Nat} {xs : Nat → Int32} {v u : mV} {c : Nat} {a : Nat} (hn : n ≤ 6) (hc : c = (K_T n).length) (hw : W_C n v) (ha : a < n) (hu : v 4 a 6 = 0) : E_v false n L xs (d + 3) 37 [Sum.inr (Sum.inl (0, 0)), Sum.inl (nI a)] (v, u, c) (some (Sum.inl 0)) (v, u, c) := by
  refine E_mk mc_37 (by decide) ?_
  refine G_steps 2 (S1 := (2, [some (Sum.inr (Sum.inl (0, 0))), some (Sum.inl (nI a))], [Sum.inl (nI a), Sum.inr (Sum.inl (0, 0))], (v, u, c))) rfl rfl ?_
  refine G_call (y := some (Sum.inl (c_up v a))) (M1 := (v, u, c)) rfl rfl (e_isUp1 _ hn hc hw.1 ha) ?_
  refine G_is (S' := (5, [some (Sum.inr (Sum.inl (0, 0))), some (Sum.inl (nI a))], [Sum.inl (c_up v a)], (v, u, c))) rfl ?_
  refine G_top (if_pos hu) ?_
  refine G_steps 1 (S1 := (if ¬ 0 = 0 then 10 else 8, [some (Sum.inr (Sum.inl (0, 0))), some (Sum.inl (nI a))], [], (v, u, c))) rfl rfl ?_
  refine G_nF rfl ?_
  refine G_steps 1 (S1 := (9, [some (Sum.inr (Sum.inl (0, 0))), some (Sum.inl (nI a))], [Sum.inl 0], (v, u, c))) rfl rfl ?_
  exact G_fin rfl rfl rfl
set_option maxRecDepth 100000 in
theorem e_stop2 (d : Nat) {n L : Nat} {xs : Nat → Int32} {v u : mV} {c : Nat} {a : Nat} (hn : n ≤ 6) (hc : c = (K_T n).length) (hw : W_C n v) (ha : a < n) (hu : ¬ v 4 a 6 = 0) : E_v false n L xs (d + 3) 37 [Sum.inr (Sum.inl (0, 0)), Sum.inl (nI a)] (v, u, c) (some (Sum.inl 1)) (m_u3 v 4 a 6 0, u, c) := by
  refine E_mk mc_37 (by decide) ?_
  refine G_steps 2 (S1 := (2, [some (Sum.inr (Sum.inl (0, 0))), some (Sum.inl (nI a))], [Sum.inl (nI a), Sum.inr (Sum.inl (0, 0))], (v, u, c))) rfl rfl ?_
  refine G_call (y := some (Sum.inl (c_up v a))) (M1 := (v, u, c)) rfl rfl (e_isUp1 _ hn hc hw.1 ha) ?_
  refine G_is (S' := (5, [some (Sum.inr (Sum.inl (0, 0))), some (Sum.inl (nI a))], [Sum.inl (c_up v a)], (v, u, c))) rfl ?_
  refine G_top (if_neg hu) ?_
  refine G_steps 1 (S1 := (if ¬ 1 = 0 then 10 else 8, [some (Sum.inr (Sum.inl (0, 0))), some (Sum.inl (nI a))], [], (v, u, c))) rfl rfl ?_
  refine G_nT (by decide) ?_
  refine G_steps 3 (S1 := (15, [some (Sum.inr (Sum.inl (0, 0))), some (Sum.inl (nI a))], [Sum.inl (nI a), Sum.inr (Sum.inl (1, 0))], (v, u, c))) rfl rfl ?_
  refine G_step (S1 := (16, [some (Sum.inr (Sum.inl (0, 0))), some (Sum.inl (nI a))], [Sum.inr (Sum.inl (4, ix (nI a)))], (v, u, c))) rfl (ald_n' (n := n) (a := a) hn (by omega) hc) ?_
  rw [ix_nI (j := a) (by omega)]
  refine G_steps 1 (S1 := (17, [some (Sum.inr (Sum.inl (0, 0))), some (Sum.inl (nI a))], [Sum.inl 0, Sum.inr (Sum.inl (4, a))], (v, u, c))) rfl rfl ?_
  refine G_step (S1 := (20, [some (Sum.inr (Sum.inl (0, 0))), some (Sum.inl (nI a))], [], (m_u3 v 4 a 6 0, u, c))) rfl rfl ?_
  refine G_steps 1 (S1 := (21, [some (Sum.inr (Sum.inl (0, 0))), some (Sum.inl (nI a))], [Sum.inl 1], (m_u3 v 4 a 6 0, u, c))) rfl rfl ?_
  exact G_fin rfl rfl rfl
set_option maxRecDepth 100000 in
theorem e_status0 (d : Nat) {n L : Nat} {xs : Nat → Int32} {v u : mV} {c : Nat} {x y : Int32} (hn : n ≤ 6) (hc : c = (K_T n).length) (hf : F_n n v) (hx : c_in n x = 0) : E_v false n L xs (d + 2) 38 [Sum.inr (Sum.inl (0, 0)), Sum.inl x, Sum.inl y] (v, u, c) (some (Sum.inl (-1))) (v, u, c) := by
  refine E_mk mc_38 (by decide) ?_
  refine G_steps 2 (S1 := (2, [some (Sum.inr (Sum.inl (0, 0))), some (Sum.inl x), some (Sum.inl y)], [Sum.inl x, Sum.inr (Sum.inl (0, 0))], (v, u, c))) rfl rfl ?_
  refine G_call (y := some (Sum.inl (c_in n x))) (M1 := (v, u, c)) rfl rfl (e_isNode _ hf) ?_
  refine G_is (S' := (5, [some (Sum.inr (Sum.inl (0, 0))), some (Sum.inl x), some (Sum.inl y)], [Sum.inl (c_in n x)], (v, u, c))) rfl ?_
  refine G_top hx ?_
  refine G_steps 1 (S1 := (if 0 = 0 then 30 else 8, [some (Sum.inr (Sum.inl (0, 0))), some (Sum.inl x), some (Sum.inl y)], [], (v, u, c))) rfl rfl ?_
  refine G_iT rfl ?_
  refine G_steps 1 (S1 := (31, [some (Sum.inr (Sum.inl (0, 0))), some (Sum.inl x), some (Sum.inl y)], [Sum.inl (-1)], (v, u, c))) rfl rfl ?_
  exact G_fin rfl rfl rfl
set_option maxRecDepth 100000 in
theorem e_status1 (d : Nat) {n L : Nat} {xs : Nat → Int32} {v u : mV} {c : Nat} {a : Nat} {y : Int32} (hn : n ≤ 6) (hc : c = (K_T n).length) (hf : F_n n v) (ha : a < n) (hy : c_in n y = 0) : E_v false n L xs (d + 2) 38 [Sum.inr (Sum.inl (0, 0)), Sum.inl (nI a), Sum.inl y] (v, u, c) (some (Sum.inl (-1))) (v, u, c) := by
  refine E_mk mc_38 (by decide) ?_
  refine G_steps 2 (S1 := (2, [some (Sum.inr (Sum.inl (0, 0))), some (Sum.inl (nI a)), some (Sum.inl y)], [Sum.inl (nI a), Sum.inr (Sum.inl (0, 0))], (v, u, c))) rfl rfl ?_
  refine G_call (y := some (Sum.inl (c_in n (nI a)))) (M1 := (v, u, c)) rfl rfl (e_isNode _ hf) ?_
  refine G_is (S' := (5, [some (Sum.inr (Sum.inl (0, 0))), some (Sum.inl (nI a)), some (Sum.inl y)], [Sum.inl (c_in n (nI a))], (v, u, c))) rfl ?_
  refine G_top (in_1 hn ha) ?_
  refine G_steps 1 (S1 := (if 1 = 0 then 30 else 8, [some (Sum.inr (Sum.inl (0, 0))), some (Sum.inl (nI a)), some (Sum.inl y)], [], (v, u, c))) rfl rfl ?_
  refine G_iF (by decide) ?_
  refine G_steps 2 (S1 := (10, [some (Sum.inr (Sum.inl (0, 0))), some (Sum.inl (nI a)), some (Sum.inl y)], [Sum.inl y, Sum.inr (Sum.inl (0, 0))], (v, u, c))) rfl rfl ?_
  refine G_call (y := some (Sum.inl (c_in n y))) (M1 := (v, u, c)) rfl rfl (e_isNode _ hf) ?_
  refine G_is (S' := (13, [some (Sum.inr (Sum.inl (0, 0))), some (Sum.inl (nI a)), some (Sum.inl y)], [Sum.inl (c_in n y)], (v, u, c))) rfl ?_
  refine G_top hy ?_
  refine G_steps 1 (S1 := (if 0 = 0 then 30 else 16, [some (Sum.inr (Sum.inl (0, 0))), some (Sum.inl (nI a)), some (Sum.inl y)], [], (v, u, c))) rfl rfl ?_
  refine G_iT rfl ?_
  refine G_steps 1 (S1 := (31, [some (Sum.inr (Sum.inl (0, 0))), some (Sum.inl (nI a)), some (Sum.inl y)], [Sum.inl (-1)], (v, u, c))) rfl rfl ?_
  exact G_fin rfl rfl rfl
set_option maxRecDepth 100000 in
theorem e_status2 (d : Nat) {n L : Nat} {xs : Nat → Int32} {v u : mV} {c : Nat} {a m : Nat} (hn : n ≤ 6) (hc : c = (K_T n).length) (hf : F_n n v) (ha : a < n) (hm : m < n) : E_v false n L xs (d + 2) 38 [Sum.inr (Sum.inl (0, 0)), Sum.inl (nI a), Sum.inl (nI m)] (v, u, c) (some (Sum.inl (v 5 a m))) (v, u, c) := by
  refine E_mk mc_38 (by decide) ?_
  refine G_steps 2 (S1 := (2, [some (Sum.inr (Sum.inl (0, 0))), some (Sum.inl (nI a)), some (Sum.inl (nI m))], [Sum.inl (nI a), Sum.inr (Sum.inl (0, 0))], (v, u, c))) rfl rfl ?_
  refine G_call (y := some (Sum.inl (c_in n (nI a)))) (M1 := (v, u, c)) rfl rfl (e_isNode _ hf) ?_
  refine G_is (S' := (5, [some (Sum.inr (Sum.inl (0, 0))), some (Sum.inl (nI a)), some (Sum.inl (nI m))], [Sum.inl (c_in n (nI a))], (v, u, c))) rfl ?_
  refine G_top (in_1 hn ha) ?_
  refine G_steps 1 (S1 := (if 1 = 0 then 30 else 8, [some (Sum.inr (Sum.inl (0, 0))), some (Sum.inl (nI a)), some (Sum.inl (nI m))], [], (v, u, c))) rfl rfl ?_
  refine G_iF (by decide) ?_
  refine G_steps 2 (S1 := (10, [some (Sum.inr (Sum.inl (0, 0))), some (Sum.inl (nI a)), some (Sum.inl (nI m))], [Sum.inl (nI m), Sum.inr (Sum.inl (0, 0))], (v, u, c))) rfl rfl ?_
  refine G_call (y := some (Sum.inl (c_in n (nI m)))) (M1 := (v, u, c)) rfl rfl (e_isNode _ hf) ?_
  refine G_is (S' := (13, [some (Sum.inr (Sum.inl (0, 0))), some (Sum.inl (nI a)), some (Sum.inl (nI m))], [Sum.inl (c_in n (nI m))], (v, u, c))) rfl ?_
  refine G_top (in_1 hn hm) ?_
  refine G_steps 1 (S1 := (if 1 = 0 then 30 else 16, [some (Sum.inr (Sum.inl (0, 0))), some (Sum.inl (nI a)), some (Sum.inl (nI m))], [], (v, u, c))) rfl rfl ?_
  refine G_iF (by decide) ?_
  refine G_steps 3 (S1 := (21, [some (Sum.inr (Sum.inl (0, 0))), some (Sum.inl (nI a)), some (Sum.inl (nI m))], [Sum.inl (nI a), Sum.inr (Sum.inl (1, 0))], (v, u, c))) rfl rfl ?_
  refine G_step (S1 := (22, [some (Sum.inr (Sum.inl (0, 0))), some (Sum.inl (nI a)), some (Sum.inl (nI m))], [Sum.inr (Sum.inl (4, ix (nI a)))], (v, u, c))) rfl (ald_n' (n := n) (a := a) hn (by omega) hc) ?_
  rw [ix_nI (j := a) (by omega)]
  refine G_steps 2 (S1 := (26, [some (Sum.inr (Sum.inl (0, 0))), some (Sum.inl (nI a)), some (Sum.inl (nI m))], [Sum.inl (nI m), Sum.inr (Sum.inl (5, a))], (v, u, c))) rfl rfl ?_
  refine G_step (S1 := (27, [some (Sum.inr (Sum.inl (0, 0))), some (Sum.inl (nI a)), some (Sum.inl (nI m))], [Sum.inl (v 5 a (ix (nI m)))], (v, u, c))) rfl (ib_nI (j := m) (len := n) (by omega) (by omega)) ?_
  rw [ix_nI (j := m) (by omega)]
  refine G_steps 1 (S1 := (31, [some (Sum.inr (Sum.inl (0, 0))), some (Sum.inl (nI a)), some (Sum.inl (nI m))], [Sum.inl (v 5 a m)], (v, u, c))) rfl rfl ?_
  exact G_fin rfl rfl rfl
set_option maxRecDepth 100000 in
theorem e_incarnation0 (d : Nat) {n L : Nat} {xs : Nat → Int32} {v u : mV} {c : Nat} {x y : Int32} (hn : n ≤ 6) (hc : c = (K_T n).length) (hf : F_n n v) (hx : c_in n x = 0) : E_v false n L xs (d + 2) 39 [Sum.inr (Sum.inl (0, 0)), Sum.inl x, Sum.inl y] (v, u, c) (some (Sum.inl (-1))) (v, u, c) := by
  refine E_mk mc_39 (by decide) ?_
  refine G_steps 2 (S1 := (2, [some (Sum.inr (Sum.inl (0, 0))), some (Sum.inl x), some (Sum.inl y)], [Sum.inl x, Sum.inr (Sum.inl (0, 0))], (v, u, c))) rfl rfl ?_
  refine G_call (y := some (Sum.inl (c_in n x))) (M1 := (v, u, c)) rfl rfl (e_isNode _ hf) ?_
  refine G_is (S' := (5, [some (Sum.inr (Sum.inl (0, 0))), some (Sum.inl x), some (Sum.inl y)], [Sum.inl (c_in n x)], (v, u, c))) rfl ?_
  refine G_top hx ?_
  refine G_steps 1 (S1 := (if 0 = 0 then 30 else 8, [some (Sum.inr (Sum.inl (0, 0))), some (Sum.inl x), some (Sum.inl y)], [], (v, u, c))) rfl rfl ?_
  refine G_iT rfl ?_
  refine G_steps 1 (S1 := (31, [some (Sum.inr (Sum.inl (0, 0))), some (Sum.inl x), some (Sum.inl y)], [Sum.inl (-1)], (v, u, c))) rfl rfl ?_
  exact G_fin rfl rfl rfl
set_option maxRecDepth 100000 in
theorem e_incarnation1 (d : Nat) {n L : Nat} {xs : Nat → Int32} {v u : mV} {c : Nat} {a : Nat} {y : Int32} (hn : n ≤ 6) (hc : c = (K_T n).length) (hf : F_n n v) (ha : a < n) (hy : c_in n y = 0) : E_v false n L xs (d + 2) 39 [Sum.inr (Sum.inl (0, 0)), Sum.inl (nI a), Sum.inl y] (v, u, c) (some (Sum.inl (-1))) (v, u, c) := by
  refine E_mk mc_39 (by decide) ?_
  refine G_steps 2 (S1 := (2, [some (Sum.inr (Sum.inl (0, 0))), some (Sum.inl (nI a)), some (Sum.inl y)], [Sum.inl (nI a), Sum.inr (Sum.inl (0, 0))], (v, u, c))) rfl rfl ?_
  refine G_call (y := some (Sum.inl (c_in n (nI a)))) (M1 := (v, u, c)) rfl rfl (e_isNode _ hf) ?_
  refine G_is (S' := (5, [some (Sum.inr (Sum.inl (0, 0))), some (Sum.inl (nI a)), some (Sum.inl y)], [Sum.inl (c_in n (nI a))], (v, u, c))) rfl ?_
  refine G_top (in_1 hn ha) ?_
  refine G_steps 1 (S1 := (if 1 = 0 then 30 else 8, [some (Sum.inr (Sum.inl (0, 0))), some (Sum.inl (nI a)), some (Sum.inl y)], [], (v, u, c))) rfl rfl ?_
  refine G_iF (by decide) ?_
  refine G_steps 2 (S1 := (10, [some (Sum.inr (Sum.inl (0, 0))), some (Sum.inl (nI a)), some (Sum.inl y)], [Sum.inl y, Sum.inr (Sum.inl (0, 0))], (v, u, c))) rfl rfl ?_
  refine G_call (y := some (Sum.inl (c_in n y))) (M1 := (v, u, c)) rfl rfl (e_isNode _ hf) ?_
  refine G_is (S' := (13, [some (Sum.inr (Sum.inl (0, 0))), some (Sum.inl (nI a)), some (Sum.inl y)], [Sum.inl (c_in n y)], (v, u, c))) rfl ?_
  refine G_top hy ?_
  refine G_steps 1 (S1 := (if 0 = 0 then 30 else 16, [some (Sum.inr (Sum.inl (0, 0))), some (Sum.inl (nI a)), some (Sum.inl y)], [], (v, u, c))) rfl rfl ?_
  refine G_iT rfl ?_
  refine G_steps 1 (S1 := (31, [some (Sum.inr (Sum.inl (0, 0))), some (Sum.inl (nI a)), some (Sum.inl y)], [Sum.inl (-1)], (v, u, c))) rfl rfl ?_
  exact G_fin rfl rfl rfl
set_option maxRecDepth 100000 in
theorem e_incarnation2 (d : Nat) {n L : Nat} {xs : Nat → Int32} {v u : mV} {c : Nat} {a m : Nat} (hn : n ≤ 6) (hc : c = (K_T n).length) (hf : F_n n v) (ha : a < n) (hm : m < n) : E_v false n L xs (d + 2) 39 [Sum.inr (Sum.inl (0, 0)), Sum.inl (nI a), Sum.inl (nI m)] (v, u, c) (some (Sum.inl (v 6 a m))) (v, u, c) := by
  refine E_mk mc_39 (by decide) ?_
  refine G_steps 2 (S1 := (2, [some (Sum.inr (Sum.inl (0, 0))), some (Sum.inl (nI a)), some (Sum.inl (nI m))], [Sum.inl (nI a), Sum.inr (Sum.inl (0, 0))], (v, u, c))) rfl rfl ?_
  refine G_call (y := some (Sum.inl (c_in n (nI a)))) (M1 := (v, u, c)) rfl rfl (e_isNode _ hf) ?_
  refine G_is (S' := (5, [some (Sum.inr (Sum.inl (0, 0))), some (Sum.inl (nI a)), some (Sum.inl (nI m))], [Sum.inl (c_in n (nI a))], (v, u, c))) rfl ?_
  refine G_top (in_1 hn ha) ?_
  refine G_steps 1 (S1 := (if 1 = 0 then 30 else 8, [some (Sum.inr (Sum.inl (0, 0))), some (Sum.inl (nI a)), some (Sum.inl (nI m))], [], (v, u, c))) rfl rfl ?_
  refine G_iF (by decide) ?_
  refine G_steps 2 (S1 := (10, [some (Sum.inr (Sum.inl (0, 0))), some (Sum.inl (nI a)), some (Sum.inl (nI m))], [Sum.inl (nI m), Sum.inr (Sum.inl (0, 0))], (v, u, c))) rfl rfl ?_
  refine G_call (y := some (Sum.inl (c_in n (nI m)))) (M1 := (v, u, c)) rfl rfl (e_isNode _ hf) ?_
  refine G_is (S' := (13, [some (Sum.inr (Sum.inl (0, 0))), some (Sum.inl (nI a)), some (Sum.inl (nI m))], [Sum.inl (c_in n (nI m))], (v, u, c))) rfl ?_
  refine G_top (in_1 hn hm) ?_
  refine G_steps 1 (S1 := (if 1 = 0 then 30 else 16, [some (Sum.inr (Sum.inl (0, 0))), some (Sum.inl (nI a)), some (Sum.inl (nI m))], [], (v, u, c))) rfl rfl ?_
  refine G_iF (by decide) ?_
  refine G_steps 3 (S1 := (21, [some (Sum.inr (Sum.inl (0, 0))), some (Sum.inl (nI a)), some (Sum.inl (nI m))], [Sum.inl (nI a), Sum.inr (Sum.inl (1, 0))], (v, u, c))) rfl rfl ?_
  refine G_step (S1 := (22, [some (Sum.inr (Sum.inl (0, 0))), some (Sum.inl (nI a)), some (Sum.inl (nI m))], [Sum.inr (Sum.inl (4, ix (nI a)))], (v, u, c))) rfl (ald_n' (n := n) (a := a) hn (by omega) hc) ?_
  rw [ix_nI (j := a) (by omega)]
  refine G_steps 2 (S1 := (26, [some (Sum.inr (Sum.inl (0, 0))), some (Sum.inl (nI a)), some (Sum.inl (nI m))], [Sum.inl (nI m), Sum.inr (Sum.inl (6, a))], (v, u, c))) rfl rfl ?_
  refine G_step (S1 := (27, [some (Sum.inr (Sum.inl (0, 0))), some (Sum.inl (nI a)), some (Sum.inl (nI m))], [Sum.inl (v 6 a (ix (nI m)))], (v, u, c))) rfl (ib_nI (j := m) (len := n) (by omega) (by omega)) ?_
  rw [ix_nI (j := m) (by omega)]
  refine G_steps 1 (S1 := (31, [some (Sum.inr (Sum.inl (0, 0))), some (Sum.inl (nI a)), some (Sum.inl (nI m))], [Sum.inl (v 6 a m)], (v, u, c))) rfl rfl ?_
  exact G_fin rfl rfl rfl
set_option maxRecDepth 100000 in
theorem e_timer0 (d : Nat) {n L : Nat} {xs : Nat → Int32} {v u : mV} {c : Nat} {x y : Int32} (hn : n ≤ 6) (hc : c = (K_T n).length) (hf : F_n n v) (hx : c_in n x = 0) : E_v false n L xs (d + 2) 40 [Sum.inr (Sum.inl (0, 0)), Sum.inl x, Sum.inl y] (v, u, c) (some (Sum.inl 0)) (v, u, c) := by
  refine E_mk mc_40 (by decide) ?_
  refine G_steps 2 (S1 := (2, [some (Sum.inr (Sum.inl (0, 0))), some (Sum.inl x), some (Sum.inl y)], [Sum.inl x, Sum.inr (Sum.inl (0, 0))], (v, u, c))) rfl rfl ?_
  refine G_call (y := some (Sum.inl (c_in n x))) (M1 := (v, u, c)) rfl rfl (e_isNode _ hf) ?_
  refine G_is (S' := (5, [some (Sum.inr (Sum.inl (0, 0))), some (Sum.inl x), some (Sum.inl y)], [Sum.inl (c_in n x)], (v, u, c))) rfl ?_
  refine G_top hx ?_
  refine G_steps 1 (S1 := (if 0 = 0 then 30 else 8, [some (Sum.inr (Sum.inl (0, 0))), some (Sum.inl x), some (Sum.inl y)], [], (v, u, c))) rfl rfl ?_
  refine G_iT rfl ?_
  refine G_steps 1 (S1 := (31, [some (Sum.inr (Sum.inl (0, 0))), some (Sum.inl x), some (Sum.inl y)], [Sum.inl 0], (v, u, c))) rfl rfl ?_
  exact G_fin rfl rfl rfl
set_option maxRecDepth 100000 in
theorem e_timer1 (d : Nat) {n L : Nat} {xs : Nat → Int32} {v u : mV} {c : Nat} {a : Nat} {y : Int32} (hn : n ≤ 6) (hc : c = (K_T n).length) (hf : F_n n v) (ha : a < n) (hy : c_in n y = 0) : E_v false n L xs (d + 2) 40 [Sum.inr (Sum.inl (0, 0)), Sum.inl (nI a), Sum.inl y] (v, u, c) (some (Sum.inl 0)) (v, u, c) := by
  refine E_mk mc_40 (by decide) ?_
  refine G_steps 2 (S1 := (2, [some (Sum.inr (Sum.inl (0, 0))), some (Sum.inl (nI a)), some (Sum.inl y)], [Sum.inl (nI a), Sum.inr (Sum.inl (0, 0))], (v, u, c))) rfl rfl ?_
  refine G_call (y := some (Sum.inl (c_in n (nI a)))) (M1 := (v, u, c)) rfl rfl (e_isNode _ hf) ?_
  refine G_is (S' := (5, [some (Sum.inr (Sum.inl (0, 0))), some (Sum.inl (nI a)), some (Sum.inl y)], [Sum.inl (c_in n (nI a))], (v, u, c))) rfl ?_
  refine G_top (in_1 hn ha) ?_
  refine G_steps 1 (S1 := (if 1 = 0 then 30 else 8, [some (Sum.inr (Sum.inl (0, 0))), some (Sum.inl (nI a)), some (Sum.inl y)], [], (v, u, c))) rfl rfl ?_
  refine G_iF (by decide) ?_
  refine G_steps 2 (S1 := (10, [some (Sum.inr (Sum.inl (0, 0))), some (Sum.inl (nI a)), some (Sum.inl y)], [Sum.inl y, Sum.inr (Sum.inl (0, 0))], (v, u, c))) rfl rfl ?_
  refine G_call (y := some (Sum.inl (c_in n y))) (M1 := (v, u, c)) rfl rfl (e_isNode _ hf) ?_
  refine G_is (S' := (13, [some (Sum.inr (Sum.inl (0, 0))), some (Sum.inl (nI a)), some (Sum.inl y)], [Sum.inl (c_in n y)], (v, u, c))) rfl ?_
  refine G_top hy ?_
  refine G_steps 1 (S1 := (if 0 = 0 then 30 else 16, [some (Sum.inr (Sum.inl (0, 0))), some (Sum.inl (nI a)), some (Sum.inl y)], [], (v, u, c))) rfl rfl ?_
  refine G_iT rfl ?_
  refine G_steps 1 (S1 := (31, [some (Sum.inr (Sum.inl (0, 0))), some (Sum.inl (nI a)), some (Sum.inl y)], [Sum.inl 0], (v, u, c))) rfl rfl ?_
  exact G_fin rfl rfl rfl
set_option maxRecDepth 100000 in
theorem e_timer2 (d : Nat) {n L : Nat} {xs : Nat → Int32} {v u : mV} {c : Nat} {a m : Nat} (hn : n ≤ 6) (hc : c = (K_T n).length) (hf : F_n n v) (ha : a < n) (hm : m < n) : E_v false n L xs (d + 2) 40 [Sum.inr (Sum.inl (0, 0)), Sum.inl (nI a), Sum.inl (nI m)] (v, u, c) (some (Sum.inl (v 7 a m))) (v, u, c) := by
  refine E_mk mc_40 (by decide) ?_
  refine G_steps 2 (S1 := (2, [some (Sum.inr (Sum.inl (0, 0))), some (Sum.inl (nI a)), some (Sum.inl (nI m))], [Sum.inl (nI a), Sum.inr (Sum.inl (0, 0))], (v, u, c))) rfl rfl ?_
  refine G_call (y := some (Sum.inl (c_in n (nI a)))) (M1 := (v, u, c)) rfl rfl (e_isNode _ hf) ?_
  refine G_is (S' := (5, [some (Sum.inr (Sum.inl (0, 0))), some (Sum.inl (nI a)), some (Sum.inl (nI m))], [Sum.inl (c_in n (nI a))], (v, u, c))) rfl ?_
  refine G_top (in_1 hn ha) ?_
  refine G_steps 1 (S1 := (if 1 = 0 then 30 else 8, [some (Sum.inr (Sum.inl (0, 0))), some (Sum.inl (nI a)), some (Sum.inl (nI m))], [], (v, u, c))) rfl rfl ?_
  refine G_iF (by decide) ?_
  refine G_steps 2 (S1 := (10, [some (Sum.inr (Sum.inl (0, 0))), some (Sum.inl (nI a)), some (Sum.inl (nI m))], [Sum.inl (nI m), Sum.inr (Sum.inl (0, 0))], (v, u, c))) rfl rfl ?_
  refine G_call (y := some (Sum.inl (c_in n (nI m)))) (M1 := (v, u, c)) rfl rfl (e_isNode _ hf) ?_
  refine G_is (S' := (13, [some (Sum.inr (Sum.inl (0, 0))), some (Sum.inl (nI a)), some (Sum.inl (nI m))], [Sum.inl (c_in n (nI m))], (v, u, c))) rfl ?_
  refine G_top (in_1 hn hm) ?_
  refine G_steps 1 (S1 := (if 1 = 0 then 30 else 16, [some (Sum.inr (Sum.inl (0, 0))), some (Sum.inl (nI a)), some (Sum.inl (nI m))], [], (v, u, c))) rfl rfl ?_
  refine G_iF (by decide) ?_
  refine G_steps 3 (S1 := (21, [some (Sum.inr (Sum.inl (0, 0))), some (Sum.inl (nI a)), some (Sum.inl (nI m))], [Sum.inl (nI a), Sum.inr (Sum.inl (1, 0))], (v, u, c))) rfl rfl ?_
  refine G_step (S1 := (22, [some (Sum.inr (Sum.inl (0, 0))), some (Sum.inl (nI a)), some (Sum.inl (nI m))], [Sum.inr (Sum.inl (4, ix (nI a)))], (v, u, c))) rfl (ald_n' (n := n) (a := a) hn (by omega) hc) ?_
  rw [ix_nI (j := a) (by omega)]
  refine G_steps 2 (S1 := (26, [some (Sum.inr (Sum.inl (0, 0))), some (Sum.inl (nI a)), some (Sum.inl (nI m))], [Sum.inl (nI m), Sum.inr (Sum.inl (7, a))], (v, u, c))) rfl rfl ?_
  refine G_step (S1 := (27, [some (Sum.inr (Sum.inl (0, 0))), some (Sum.inl (nI a)), some (Sum.inl (nI m))], [Sum.inl (v 7 a (ix (nI m)))], (v, u, c))) rfl (ib_nI (j := m) (len := n) (by omega) (by omega)) ?_
  rw [ix_nI (j := m) (by omega)]
  refine G_steps 1 (S1 := (31, [some (Sum.inr (Sum.inl (0, 0))), some (Sum.inl (nI a)), some (Sum.inl (nI m))], [Sum.inl (v 7 a m)], (v, u, c))) rfl rfl ?_
  exact G_fin rfl rfl rfl
set_option maxRecDepth 100000 in
theorem e_sent0 (d : Nat) {n L : Nat} {xs : Nat → Int32} {v u : mV} {c : Nat} {x y : Int32} (hn : n ≤ 6) (hc : c = (K_T n).length) (hf : F_n n v) (hx : c_in n x = 0) : E_v false n L xs (d + 2) 42 [Sum.inr (Sum.inl (0, 0)), Sum.inl x, Sum.inl y] (v, u, c) (some (Sum.inl (-1))) (v, u, c) := by
  refine E_mk mc_42 (by decide) ?_
  refine G_steps 2 (S1 := (2, [some (Sum.inr (Sum.inl (0, 0))), some (Sum.inl x), some (Sum.inl y)], [Sum.inl x, Sum.inr (Sum.inl (0, 0))], (v, u, c))) rfl rfl ?_
  refine G_call (y := some (Sum.inl (c_in n x))) (M1 := (v, u, c)) rfl rfl (e_isNode _ hf) ?_
  refine G_is (S' := (5, [some (Sum.inr (Sum.inl (0, 0))), some (Sum.inl x), some (Sum.inl y)], [Sum.inl (c_in n x)], (v, u, c))) rfl ?_
  refine G_top hx ?_
  refine G_steps 1 (S1 := (if 0 = 0 then 33 else 8, [some (Sum.inr (Sum.inl (0, 0))), some (Sum.inl x), some (Sum.inl y)], [], (v, u, c))) rfl rfl ?_
  refine G_iT rfl ?_
  refine G_steps 1 (S1 := (34, [some (Sum.inr (Sum.inl (0, 0))), some (Sum.inl x), some (Sum.inl y)], [Sum.inl (-1)], (v, u, c))) rfl rfl ?_
  exact G_fin rfl rfl rfl
set_option maxRecDepth 100000 in
theorem e_sent1 (d : Nat) {n L : Nat} {xs : Nat → Int32} {v u : mV} {c : Nat} {a : Nat} {y : Int32} (hn : n ≤ 6) (hc : c = (K_T n).length) (hf : F_n n v) (ha : a < n) (hy : c_in n y = 0) : E_v false n L xs (d + 2) 42 [Sum.inr (Sum.inl (0, 0)), Sum.inl (nI a), Sum.inl y] (v, u, c) (some (Sum.inl (-1))) (v, u, c) := by
  refine E_mk mc_42 (by decide) ?_
  refine G_steps 2 (S1 := (2, [some (Sum.inr (Sum.inl (0, 0))), some (Sum.inl (nI a)), some (Sum.inl y)], [Sum.inl (nI a), Sum.inr (Sum.inl (0, 0))], (v, u, c))) rfl rfl ?_
  refine G_call (y := some (Sum.inl (c_in n (nI a)))) (M1 := (v, u, c)) rfl rfl (e_isNode _ hf) ?_
  refine G_is (S' := (5, [some (Sum.inr (Sum.inl (0, 0))), some (Sum.inl (nI a)), some (Sum.inl y)], [Sum.inl (c_in n (nI a))], (v, u, c))) rfl ?_
  refine G_top (in_1 hn ha) ?_
  refine G_steps 1 (S1 := (if 1 = 0 then 33 else 8, [some (Sum.inr (Sum.inl (0, 0))), some (Sum.inl (nI a)), some (Sum.inl y)], [], (v, u, c))) rfl rfl ?_
  refine G_iF (by decide) ?_
  refine G_steps 2 (S1 := (10, [some (Sum.inr (Sum.inl (0, 0))), some (Sum.inl (nI a)), some (Sum.inl y)], [Sum.inl y, Sum.inr (Sum.inl (0, 0))], (v, u, c))) rfl rfl ?_
  refine G_call (y := some (Sum.inl (c_in n y))) (M1 := (v, u, c)) rfl rfl (e_isNode _ hf) ?_
  refine G_is (S' := (13, [some (Sum.inr (Sum.inl (0, 0))), some (Sum.inl (nI a)), some (Sum.inl y)], [Sum.inl (c_in n y)], (v, u, c))) rfl ?_
  refine G_top hy ?_
  refine G_steps 1 (S1 := (if 0 = 0 then 33 else 16, [some (Sum.inr (Sum.inl (0, 0))), some (Sum.inl (nI a)), some (Sum.inl y)], [], (v, u, c))) rfl rfl ?_
  refine G_iT rfl ?_
  refine G_steps 1 (S1 := (34, [some (Sum.inr (Sum.inl (0, 0))), some (Sum.inl (nI a)), some (Sum.inl y)], [Sum.inl (-1)], (v, u, c))) rfl rfl ?_
  exact G_fin rfl rfl rfl
set_option maxRecDepth 100000 in
theorem e_sent2 (d : Nat) {n L : Nat} {xs : Nat → Int32} {v u : mV} {c : Nat} {a m : Nat} (hn : n ≤ 6) (hc : c = (K_T n).length) (hf : F_n n v) (ha : a < n) (hm : m < n) : E_v false n L xs (d + 2) 42 [Sum.inr (Sum.inl (0, 0)), Sum.inl (nI a), Sum.inl (nI m)] (v, u, c) (some (Sum.inl (v 11 a m))) (v, u, c) := by
  refine E_mk mc_42 (by decide) ?_
  refine G_steps 2 (S1 := (2, [some (Sum.inr (Sum.inl (0, 0))), some (Sum.inl (nI a)), some (Sum.inl (nI m))], [Sum.inl (nI a), Sum.inr (Sum.inl (0, 0))], (v, u, c))) rfl rfl ?_
  refine G_call (y := some (Sum.inl (c_in n (nI a)))) (M1 := (v, u, c)) rfl rfl (e_isNode _ hf) ?_
  refine G_is (S' := (5, [some (Sum.inr (Sum.inl (0, 0))), some (Sum.inl (nI a)), some (Sum.inl (nI m))], [Sum.inl (c_in n (nI a))], (v, u, c))) rfl ?_
  refine G_top (in_1 hn ha) ?_
  refine G_steps 1 (S1 := (if 1 = 0 then 33 else 8, [some (Sum.inr (Sum.inl (0, 0))), some (Sum.inl (nI a)), some (Sum.inl (nI m))], [], (v, u, c))) rfl rfl ?_
  refine G_iF (by decide) ?_
  refine G_steps 2 (S1 := (10, [some (Sum.inr (Sum.inl (0, 0))), some (Sum.inl (nI a)), some (Sum.inl (nI m))], [Sum.inl (nI m), Sum.inr (Sum.inl (0, 0))], (v, u, c))) rfl rfl ?_
  refine G_call (y := some (Sum.inl (c_in n (nI m)))) (M1 := (v, u, c)) rfl rfl (e_isNode _ hf) ?_
  refine G_is (S' := (13, [some (Sum.inr (Sum.inl (0, 0))), some (Sum.inl (nI a)), some (Sum.inl (nI m))], [Sum.inl (c_in n (nI m))], (v, u, c))) rfl ?_
  refine G_top (in_1 hn hm) ?_
  refine G_steps 1 (S1 := (if 1 = 0 then 33 else 16, [some (Sum.inr (Sum.inl (0, 0))), some (Sum.inl (nI a)), some (Sum.inl (nI m))], [], (v, u, c))) rfl rfl ?_
  refine G_iF (by decide) ?_
  refine G_steps 3 (S1 := (21, [some (Sum.inr (Sum.inl (0, 0))), some (Sum.inl (nI a)), some (Sum.inl (nI m))], [Sum.inl (nI a), Sum.inr (Sum.inl (1, 0))], (v, u, c))) rfl rfl ?_
  refine G_step (S1 := (22, [some (Sum.inr (Sum.inl (0, 0))), some (Sum.inl (nI a)), some (Sum.inl (nI m))], [Sum.inr (Sum.inl (4, ix (nI a)))], (v, u, c))) rfl (ald_n' (n := n) (a := a) hn (by omega) hc) ?_
  rw [ix_nI (j := a) (by omega)]
  refine G_steps 3 (S1 := (29, [some (Sum.inr (Sum.inl (0, 0))), some (Sum.inl (nI a)), some (Sum.inl (nI m))], [Sum.inl (nI m), Sum.inr (Sum.inl (11, a))], (v, u, c))) rfl rfl ?_
  refine G_step (S1 := (30, [some (Sum.inr (Sum.inl (0, 0))), some (Sum.inl (nI a)), some (Sum.inl (nI m))], [Sum.inl (v 11 a (ix (nI m)))], (v, u, c))) rfl (ib_nI (j := m) (len := n) (by omega) (by omega)) ?_
  rw [ix_nI (j := m) (by omega)]
  refine G_steps 1 (S1 := (34, [some (Sum.inr (Sum.inl (0, 0))), some (Sum.inl (nI a)), some (Sum.inl (nI m))], [Sum.inl (v 11 a m)], (v, u, c))) rfl rfl ?_
  exact G_fin rfl rfl rfl
set_option maxRecDepth 100000 in
theorem e_probe0 (d : Nat) {n L : Nat} {xs : Nat → Int32} {v u : mV} {c : Nat} {x : Int32} (hn : n ≤ 6) (hc : c = (K_T n).length) (hf : F_n n v) (hx : c_in n x = 0) : E_v false n L xs (d + 2) 41 [Sum.inr (Sum.inl (0, 0)), Sum.inl x] (v, u, c) (some (Sum.inl (-1))) (v, u, c) := by
  refine E_mk mc_41 (by decide) ?_
  refine G_steps 2 (S1 := (2, [some (Sum.inr (Sum.inl (0, 0))), some (Sum.inl x)], [Sum.inl x, Sum.inr (Sum.inl (0, 0))], (v, u, c))) rfl rfl ?_
  refine G_call (y := some (Sum.inl (c_in n x))) (M1 := (v, u, c)) rfl rfl (e_isNode _ hf) ?_
  refine G_is (S' := (5, [some (Sum.inr (Sum.inl (0, 0))), some (Sum.inl x)], [Sum.inl (c_in n x)], (v, u, c))) rfl ?_
  refine G_top hx ?_
  refine G_steps 1 (S1 := (if 0 = 0 then 21 else 8, [some (Sum.inr (Sum.inl (0, 0))), some (Sum.inl x)], [], (v, u, c))) rfl rfl ?_
  refine G_iT rfl ?_
  refine G_steps 1 (S1 := (22, [some (Sum.inr (Sum.inl (0, 0))), some (Sum.inl x)], [Sum.inl (-1)], (v, u, c))) rfl rfl ?_
  exact G_fin rfl rfl rfl
def c_pr (v : mV) (a : Nat) : Int32 := if v 4 a 9 = -1 then -1 else if v 4 a 10 = 0 then v 4 a 9 else v 4 a 9 + 8
set_option maxRecDepth 100000 in
theorem e_probe1 (d : Nat) {n L : Nat} {xs : Nat → Int32} {v u : mV} {c : Nat} {a : Nat} (hn : n ≤ 6) (hc : c = (K_T n).length) (hf : F_n n v) (ha : a < n) : E_v false n L xs (d + 2) 41 [Sum.inr (Sum.inl (0, 0)), Sum.inl (nI a)] (v, u, c) (some (Sum.inl (c_pr v a))) (v, u, c) := by
  refine E_mk mc_41 (by decide) ?_
  refine G_steps 2 (S1 := (2, [some (Sum.inr (Sum.inl (0, 0))), some (Sum.inl (nI a))], [Sum.inl (nI a), Sum.inr (Sum.inl (0, 0))], (v, u, c))) rfl rfl ?_
  refine G_call (y := some (Sum.inl (c_in n (nI a)))) (M1 := (v, u, c)) rfl rfl (e_isNode _ hf) ?_
  refine G_is (S' := (5, [some (Sum.inr (Sum.inl (0, 0))), some (Sum.inl (nI a))], [Sum.inl (c_in n (nI a))], (v, u, c))) rfl ?_
  refine G_top (in_1 hn ha) ?_
  refine G_steps 1 (S1 := (if 1 = 0 then 21 else 8, [some (Sum.inr (Sum.inl (0, 0))), some (Sum.inl (nI a))], [], (v, u, c))) rfl rfl ?_
  refine G_iF (by decide) ?_
  refine G_steps 3 (S1 := (13, [some (Sum.inr (Sum.inl (0, 0))), some (Sum.inl (nI a))], [Sum.inl (nI a), Sum.inr (Sum.inl (1, 0))], (v, u, c))) rfl rfl ?_
  refine G_step (S1 := (14, [some (Sum.inr (Sum.inl (0, 0))), some (Sum.inl (nI a))], [Sum.inr (Sum.inl (4, ix (nI a)))], (v, u, c))) rfl (ald_n' (n := n) (a := a) hn (by omega) hc) ?_
  rw [ix_nI (j := a) (by omega)]
  refine G_steps 3 (S1 := (if ¬ v 4 a 9 = (-1) then 23 else 21, [some (Sum.inr (Sum.inl (0, 0))), some (Sum.inl (nI a))], [], (v, u, c))) rfl rfl ?_
  refine G_ifn (fun h1 => ?_) (fun h1 => ?_)
  · skip
    refine G_steps 3 (S1 := (28, [some (Sum.inr (Sum.inl (0, 0))), some (Sum.inl (nI a))], [Sum.inl (nI a), Sum.inr (Sum.inl (1, 0))], (v, u, c))) rfl rfl ?_
    refine G_step (S1 := (29, [some (Sum.inr (Sum.inl (0, 0))), some (Sum.inl (nI a))], [Sum.inr (Sum.inl (4, ix (nI a)))], (v, u, c))) rfl (ald_n' (n := n) (a := a) hn (by omega) hc) ?_
    rw [ix_nI (j := a) (by omega)]
    refine G_steps 2 (S1 := (if v 4 a 10 = 0 then 50 else 35, [some (Sum.inr (Sum.inl (0, 0))), some (Sum.inl (nI a))], [], (v, u, c))) rfl rfl ?_
    refine G_if (fun h2 => ?_) (fun h2 => ?_)
    · skip
      refine G_steps 3 (S1 := (55, [some (Sum.inr (Sum.inl (0, 0))), some (Sum.inl (nI a))], [Sum.inl (nI a), Sum.inr (Sum.inl (1, 0))], (v, u, c))) rfl rfl ?_
      refine G_step (S1 := (56, [some (Sum.inr (Sum.inl (0, 0))), some (Sum.inl (nI a))], [Sum.inr (Sum.inl (4, ix (nI a)))], (v, u, c))) rfl (ald_n' (n := n) (a := a) hn (by omega) hc) ?_
      rw [ix_nI (j := a) (by omega)]
      refine G_steps 1 (S1 := (59, [some (Sum.inr (Sum.inl (0, 0))), some (Sum.inl (nI a))], [Sum.inl (v 4 a 9)], (v, u, c))) rfl rfl ?_
      exact G_fin rfl (by simp only [c_pr, if_neg h1, if_pos h2]) rfl
    · skip
      refine G_steps 3 (S1 := (40, [some (Sum.inr (Sum.inl (0, 0))), some (Sum.inl (nI a))], [Sum.inl (nI a), Sum.inr (Sum.inl (1, 0))], (v, u, c))) rfl rfl ?_
      refine G_step (S1 := (41, [some (Sum.inr (Sum.inl (0, 0))), some (Sum.inl (nI a))], [Sum.inr (Sum.inl (4, ix (nI a)))], (v, u, c))) rfl (ald_n' (n := n) (a := a) hn (by omega) hc) ?_
      rw [ix_nI (j := a) (by omega)]
      refine G_steps 4 (S1 := (59, [some (Sum.inr (Sum.inl (0, 0))), some (Sum.inl (nI a))], [Sum.inl ((v 4 a 9) + 8)], (v, u, c))) rfl rfl ?_
      exact G_fin rfl (by simp only [c_pr, if_neg h1, if_neg h2]) rfl
  · skip
    refine G_steps 1 (S1 := (22, [some (Sum.inr (Sum.inl (0, 0))), some (Sum.inl (nI a))], [Sum.inl (-1)], (v, u, c))) rfl rfl ?_
    exact G_fin rfl (by simp only [c_pr, if_pos h1]) rfl
set_option maxRecDepth 100000 in
theorem e_flying (d : Nat) {n L : Nat} {xs : Nat → Int32} {v u : mV} {c : Nat}  : E_v false n L xs (d + 1) 43 [Sum.inr (Sum.inl (0, 0))] (v, u, c) (some (Sum.inl (v 2 0 1))) (v, u, c) := by
  refine E_mk mc_43 (by decide) ?_
  refine G_steps 3 (S1 := (7, [some (Sum.inr (Sum.inl (0, 0)))], [Sum.inl (v 2 0 1)], (v, u, c))) rfl rfl ?_
  exact G_fin rfl rfl rfl
set_option maxRecDepth 100000 in
theorem e_message0 (d : Nat) {n L : Nat} {xs : Nat → Int32} {v u : mV} {c : Nat} {x : Int32} (hn : n ≤ 6) (hc : c = (K_T n).length) (hw : W_C n v) (hx : c_has (zz v) x = 0) : E_v false n L xs (d + 2) 44 [Sum.inr (Sum.inl (0, 0)), Sum.inl x] (v, u, c) (some (Sum.inl (-1))) (v, u, c) := by
  refine E_mk mc_44 (by decide) ?_
  refine G_steps 3 (S1 := (5, [some (Sum.inr (Sum.inl (0, 0))), some (Sum.inl x), none], [Sum.inl x, Sum.inr (Sum.inl (2, 0))], (v, u, c))) rfl rfl ?_
  refine G_call (y := some (Sum.inl (c_has (zz v) x))) (M1 := (v, u, c)) rfl rfl (e_has _ hw.2.1.1) ?_
  refine G_is (S' := (8, [some (Sum.inr (Sum.inl (0, 0))), some (Sum.inl x), none], [Sum.inl (c_has (zz v) x)], (v, u, c))) rfl ?_
  refine G_top hx ?_
  refine G_steps 1 (S1 := (if ¬ 0 = 0 then 13 else 11, [some (Sum.inr (Sum.inl (0, 0))), some (Sum.inl x), none], [], (v, u, c))) rfl rfl ?_
  refine G_nF rfl ?_
  refine G_steps 1 (S1 := (12, [some (Sum.inr (Sum.inl (0, 0))), some (Sum.inl x), none], [Sum.inl (-1)], (v, u, c))) rfl rfl ?_
  exact G_fin rfl rfl rfl
def c_ms (v : mV) (q : Nat) : Int32 := v 12 q 0 * 4096 + v 12 q 1 * 512 + v 12 q 2 * 64 + v 12 q 4 * 8 + v 12 q 6
set_option maxRecDepth 100000 in
theorem e_message1 (d : Nat) {n L : Nat} {xs : Nat → Int32} {v u : mV} {c : Nat} {k : Nat} (hn : n ≤ 6) (hc : c = (K_T n).length) (hw : W_C n v) (hk : k < zz v) (hz24 : zz v ≤ 24) : E_v false n L xs (d + 2) 44 [Sum.inr (Sum.inl (0, 0)), Sum.inl (nI k)] (v, u, c) (some (Sum.inl (c_ms v (gg v k)))) (v, u, c) := by
  refine E_mk mc_44 (by decide) ?_
  refine G_steps 3 (S1 := (5, [some (Sum.inr (Sum.inl (0, 0))), some (Sum.inl (nI k)), none], [Sum.inl (nI k), Sum.inr (Sum.inl (2, 0))], (v, u, c))) rfl rfl ?_
  refine G_call (y := some (Sum.inl (c_has (zz v) (nI k)))) (M1 := (v, u, c)) rfl rfl (e_has _ hw.2.1.1) ?_
  refine G_is (S' := (8, [some (Sum.inr (Sum.inl (0, 0))), some (Sum.inl (nI k)), none], [Sum.inl (c_has (zz v) (nI k))], (v, u, c))) rfl ?_
  refine G_top (has_1 hw.2.1.2 hk) ?_
  refine G_steps 1 (S1 := (if ¬ 1 = 0 then 13 else 11, [some (Sum.inr (Sum.inl (0, 0))), some (Sum.inl (nI k)), none], [], (v, u, c))) rfl rfl ?_
  refine G_nT (by decide) ?_
  refine G_steps 4 (S1 := (21, [some (Sum.inr (Sum.inl (0, 0))), some (Sum.inl (nI k)), none], [Sum.inl (nI k), Sum.inr (Sum.inl (3, 0))], (v, u, c))) rfl rfl ?_
  refine G_step (S1 := (22, [some (Sum.inr (Sum.inl (0, 0))), some (Sum.inl (nI k)), none], [Sum.inr (Sum.inl (12, ix (v 3 0 (ix (nI k)))))], (v, u, c))) rfl (ald_m hn (by omega) (hw.2.2 k (by omega)).1 (hw.2.2 k (by omega)).2 hc) ?_
  rw [ix_nI (j := k) (by omega), (hw.2.2 k (by omega)).1, ix_nI (j := gg v k) (by have := (hw.2.2 k (by omega)).2; omega)]
  refine G_steps 23 (S1 := (61, [some (Sum.inr (Sum.inl (0, 0))), some (Sum.inl (nI k)), some (Sum.inr (Sum.inl (12, gg v k)))], [Sum.inl ((((((v 12 (gg v k) 0) * 4096) + ((v 12 (gg v k) 1) * 512)) + ((v 12 (gg v k) 2) * 64)) + ((v 12 (gg v k) 4) * 8)) + (v 12 (gg v k) 6))], (v, u, c))) rfl rfl ?_
  exact G_fin rfl rfl rfl
set_option maxRecDepth 100000 in
theorem e_news0 (d : Nat) {n L : Nat} {xs : Nat → Int32} {v u : mV} {c : Nat} {x y : Int32} (hn : n ≤ 6) (hc : c = (K_T n).length) (hw : W_C n v) (hx : c_has (zz v) x = 0) : E_v false n L xs (d + 2) 45 [Sum.inr (Sum.inl (0, 0)), Sum.inl x, Sum.inl y] (v, u, c) (some (Sum.inr (Sum.inr (Int32.toInt64 (-1))))) (v, u, c) := by
  refine E_mk mc_45 (by decide) ?_
  refine G_steps 3 (S1 := (5, [some (Sum.inr (Sum.inl (0, 0))), some (Sum.inl x), some (Sum.inl y), none], [Sum.inl x, Sum.inr (Sum.inl (2, 0))], (v, u, c))) rfl rfl ?_
  refine G_call (y := some (Sum.inl (c_has (zz v) x))) (M1 := (v, u, c)) rfl rfl (e_has _ hw.2.1.1) ?_
  refine G_is (S' := (8, [some (Sum.inr (Sum.inl (0, 0))), some (Sum.inl x), some (Sum.inl y), none], [Sum.inl (c_has (zz v) x)], (v, u, c))) rfl ?_
  refine G_top hx ?_
  refine G_steps 1 (S1 := (if 0 = 0 then 31 else 11, [some (Sum.inr (Sum.inl (0, 0))), some (Sum.inl x), some (Sum.inl y), none], [], (v, u, c))) rfl rfl ?_
  refine G_iT rfl ?_
  refine G_steps 1 (S1 := (34, [some (Sum.inr (Sum.inl (0, 0))), some (Sum.inl x), some (Sum.inl y), none], [Sum.inr (Sum.inr (Int32.toInt64 (-1)))], (v, u, c))) rfl rfl ?_
  exact G_fin rfl rfl rfl
set_option maxRecDepth 100000 in
theorem e_news1 (d : Nat) {n L : Nat} {xs : Nat → Int32} {v u : mV} {c : Nat} {k : Nat} {y : Int32} (hn : n ≤ 6) (hc : c = (K_T n).length) (hw : W_C n v) (hk : k < zz v) (hz24 : zz v ≤ 24) (hy : y < 0 ∨ ¬ y < v 12 (gg v k) 6) : E_v false n L xs (d + 2) 45 [Sum.inr (Sum.inl (0, 0)), Sum.inl (nI k), Sum.inl y] (v, u, c) (some (Sum.inr (Sum.inr (Int32.toInt64 (-1))))) (v, u, c) := by
  refine E_mk mc_45 (by decide) ?_
  refine G_steps 3 (S1 := (5, [some (Sum.inr (Sum.inl (0, 0))), some (Sum.inl (nI k)), some (Sum.inl y), none], [Sum.inl (nI k), Sum.inr (Sum.inl (2, 0))], (v, u, c))) rfl rfl ?_
  refine G_call (y := some (Sum.inl (c_has (zz v) (nI k)))) (M1 := (v, u, c)) rfl rfl (e_has _ hw.2.1.1) ?_
  refine G_is (S' := (8, [some (Sum.inr (Sum.inl (0, 0))), some (Sum.inl (nI k)), some (Sum.inl y), none], [Sum.inl (c_has (zz v) (nI k))], (v, u, c))) rfl ?_
  refine G_top (has_1 hw.2.1.2 hk) ?_
  refine G_steps 1 (S1 := (if 1 = 0 then 31 else 11, [some (Sum.inr (Sum.inl (0, 0))), some (Sum.inl (nI k)), some (Sum.inl y), none], [], (v, u, c))) rfl rfl ?_
  refine G_iF (by decide) ?_
  refine G_steps 2 (S1 := (if y < 0 then 31 else 15, [some (Sum.inr (Sum.inl (0, 0))), some (Sum.inl (nI k)), some (Sum.inl y), none], [], (v, u, c))) rfl rfl ?_
  refine G_if (fun h1 => ?_) (fun h1 => ?_)
  · skip
    refine G_steps 1 (S1 := (34, [some (Sum.inr (Sum.inl (0, 0))), some (Sum.inl (nI k)), some (Sum.inl y), none], [Sum.inr (Sum.inr (Int32.toInt64 (-1)))], (v, u, c))) rfl rfl ?_
    exact G_fin rfl rfl rfl
  · skip
    refine G_steps 5 (S1 := (24, [some (Sum.inr (Sum.inl (0, 0))), some (Sum.inl (nI k)), some (Sum.inl y), none], [Sum.inl (nI k), Sum.inr (Sum.inl (3, 0)), Sum.inl y], (v, u, c))) rfl rfl ?_
    refine G_step (S1 := (25, [some (Sum.inr (Sum.inl (0, 0))), some (Sum.inl (nI k)), some (Sum.inl y), none], [Sum.inr (Sum.inl (12, ix (v 3 0 (ix (nI k))))), Sum.inl y], (v, u, c))) rfl (ald_m hn (by omega) (hw.2.2 k (by omega)).1 (hw.2.2 k (by omega)).2 hc) ?_
    rw [ix_nI (j := k) (by omega), (hw.2.2 k (by omega)).1, ix_nI (j := gg v k) (by have := (hw.2.2 k (by omega)).2; omega)]
    refine G_steps 2 (S1 := (if y < v 12 (gg v k) 6 then 35 else 31, [some (Sum.inr (Sum.inl (0, 0))), some (Sum.inl (nI k)), some (Sum.inl y), none], [], (v, u, c))) rfl rfl ?_
    refine G_if (fun h2 => ?_) (fun h2 => ?_)
    · skip
      exact absurd hy (fun z => z.elim h1 (fun q => q h2))
    · skip
      refine G_steps 1 (S1 := (34, [some (Sum.inr (Sum.inl (0, 0))), some (Sum.inl (nI k)), some (Sum.inl y), none], [Sum.inr (Sum.inr (Int32.toInt64 (-1)))], (v, u, c))) rfl rfl ?_
      exact G_fin rfl rfl rfl
def c_nn (v : mV) (q j : Nat) : Int64 := (v 13 q j).toInt64 * (Int32.toInt64 4) + (v 14 q j).toInt64 + (v 15 q j).toInt64 * (Int32.toInt64 64)
set_option maxRecDepth 100000 in
theorem e_news2 (d : Nat) {n L : Nat} {xs : Nat → Int32} {v u : mV} {c : Nat} {k j cnt : Nat} (hn : n ≤ 6) (hc : c = (K_T n).length) (hw : W_C n v) (hk : k < zz v) (hz24 : zz v ≤ 24) (hc6 : v 12 (gg v k) 6 = nI cnt) (hct : cnt ≤ 2) (hj : j < cnt) : E_v false n L xs (d + 2) 45 [Sum.inr (Sum.inl (0, 0)), Sum.inl (nI k), Sum.inl (nI j)] (v, u, c) (some (Sum.inr (Sum.inr (c_nn v (gg v k) j)))) (v, u, c) := by
  refine E_mk mc_45 (by decide) ?_
  refine G_steps 3 (S1 := (5, [some (Sum.inr (Sum.inl (0, 0))), some (Sum.inl (nI k)), some (Sum.inl (nI j)), none], [Sum.inl (nI k), Sum.inr (Sum.inl (2, 0))], (v, u, c))) rfl rfl ?_
  refine G_call (y := some (Sum.inl (c_has (zz v) (nI k)))) (M1 := (v, u, c)) rfl rfl (e_has _ hw.2.1.1) ?_
  refine G_is (S' := (8, [some (Sum.inr (Sum.inl (0, 0))), some (Sum.inl (nI k)), some (Sum.inl (nI j)), none], [Sum.inl (c_has (zz v) (nI k))], (v, u, c))) rfl ?_
  refine G_top (has_1 hw.2.1.2 hk) ?_
  refine G_steps 1 (S1 := (if 1 = 0 then 31 else 11, [some (Sum.inr (Sum.inl (0, 0))), some (Sum.inl (nI k)), some (Sum.inl (nI j)), none], [], (v, u, c))) rfl rfl ?_
  refine G_iF (by decide) ?_
  refine G_steps 2 (S1 := (if nI j < 0 then 31 else 15, [some (Sum.inr (Sum.inl (0, 0))), some (Sum.inl (nI k)), some (Sum.inl (nI j)), none], [], (v, u, c))) rfl rfl ?_
  refine G_iF (nI_pos (by omega)) ?_
  refine G_steps 5 (S1 := (24, [some (Sum.inr (Sum.inl (0, 0))), some (Sum.inl (nI k)), some (Sum.inl (nI j)), none], [Sum.inl (nI k), Sum.inr (Sum.inl (3, 0)), Sum.inl (nI j)], (v, u, c))) rfl rfl ?_
  refine G_step (S1 := (25, [some (Sum.inr (Sum.inl (0, 0))), some (Sum.inl (nI k)), some (Sum.inl (nI j)), none], [Sum.inr (Sum.inl (12, ix (v 3 0 (ix (nI k))))), Sum.inl (nI j)], (v, u, c))) rfl (ald_m hn (by omega) (hw.2.2 k (by omega)).1 (hw.2.2 k (by omega)).2 hc) ?_
  rw [ix_nI (j := k) (by omega), (hw.2.2 k (by omega)).1, ix_nI (j := gg v k) (by have := (hw.2.2 k (by omega)).2; omega)]
  refine G_steps 1 (S1 := (28, [some (Sum.inr (Sum.inl (0, 0))), some (Sum.inl (nI k)), some (Sum.inl (nI j)), none], [Sum.inl (v 12 (gg v k) 6), Sum.inl (nI j)], (v, u, c))) rfl rfl ?_
  refine G_top hc6 ?_
  refine G_steps 1 (S1 := (if nI j < nI cnt then 35 else 31, [some (Sum.inr (Sum.inl (0, 0))), some (Sum.inl (nI k)), some (Sum.inl (nI j)), none], [], (v, u, c))) rfl rfl ?_
  refine G_iT ((nI_lt' (by omega) (by omega)).mpr hj) ?_
  refine G_steps 4 (S1 := (43, [some (Sum.inr (Sum.inl (0, 0))), some (Sum.inl (nI k)), some (Sum.inl (nI j)), none], [Sum.inl (nI k), Sum.inr (Sum.inl (3, 0))], (v, u, c))) rfl rfl ?_
  refine G_step (S1 := (44, [some (Sum.inr (Sum.inl (0, 0))), some (Sum.inl (nI k)), some (Sum.inl (nI j)), none], [Sum.inr (Sum.inl (12, ix (v 3 0 (ix (nI k)))))], (v, u, c))) rfl (ald_m hn (by omega) (hw.2.2 k (by omega)).1 (hw.2.2 k (by omega)).2 hc) ?_
  rw [ix_nI (j := k) (by omega), (hw.2.2 k (by omega)).1, ix_nI (j := gg v k) (by have := (hw.2.2 k (by omega)).2; omega)]
  refine G_steps 4 (S1 := (50, [some (Sum.inr (Sum.inl (0, 0))), some (Sum.inl (nI k)), some (Sum.inl (nI j)), some (Sum.inr (Sum.inl (12, gg v k)))], [Sum.inl (nI j), Sum.inr (Sum.inl (13, gg v k))], (v, u, c))) rfl rfl ?_
  refine G_step (S1 := (51, [some (Sum.inr (Sum.inl (0, 0))), some (Sum.inl (nI k)), some (Sum.inl (nI j)), some (Sum.inr (Sum.inl (12, gg v k)))], [Sum.inl (v 13 (gg v k) (ix (nI j)))], (v, u, c))) rfl (ib_nI (j := j) (len := 2) (by omega) (by omega)) ?_
  rw [ix_nI (j := j) (by omega)]
  refine G_steps 6 (S1 := (61, [some (Sum.inr (Sum.inl (0, 0))), some (Sum.inl (nI k)), some (Sum.inl (nI j)), some (Sum.inr (Sum.inl (12, gg v k)))], [Sum.inl (nI j), Sum.inr (Sum.inl (14, gg v k)), Sum.inr (Sum.inr ((Int32.toInt64 (v 13 (gg v k) j)) * (Int32.toInt64 4)))], (v, u, c))) rfl rfl ?_
  refine G_step (S1 := (62, [some (Sum.inr (Sum.inl (0, 0))), some (Sum.inl (nI k)), some (Sum.inl (nI j)), some (Sum.inr (Sum.inl (12, gg v k)))], [Sum.inl (v 14 (gg v k) (ix (nI j))), Sum.inr (Sum.inr ((Int32.toInt64 (v 13 (gg v k) j)) * (Int32.toInt64 4)))], (v, u, c))) rfl (ib_nI (j := j) (len := 2) (by omega) (by omega)) ?_
  rw [ix_nI (j := j) (by omega)]
  refine G_steps 5 (S1 := (69, [some (Sum.inr (Sum.inl (0, 0))), some (Sum.inl (nI k)), some (Sum.inl (nI j)), some (Sum.inr (Sum.inl (12, gg v k)))], [Sum.inl (nI j), Sum.inr (Sum.inl (15, gg v k)), Sum.inr (Sum.inr (((Int32.toInt64 (v 13 (gg v k) j)) * (Int32.toInt64 4)) + (Int32.toInt64 (v 14 (gg v k) j))))], (v, u, c))) rfl rfl ?_
  refine G_step (S1 := (70, [some (Sum.inr (Sum.inl (0, 0))), some (Sum.inl (nI k)), some (Sum.inl (nI j)), some (Sum.inr (Sum.inl (12, gg v k)))], [Sum.inl (v 15 (gg v k) (ix (nI j))), Sum.inr (Sum.inr (((Int32.toInt64 (v 13 (gg v k) j)) * (Int32.toInt64 4)) + (Int32.toInt64 (v 14 (gg v k) j))))], (v, u, c))) rfl (ib_nI (j := j) (len := 2) (by omega) (by omega)) ?_
  rw [ix_nI (j := j) (by omega)]
  refine G_steps 4 (S1 := (76, [some (Sum.inr (Sum.inl (0, 0))), some (Sum.inl (nI k)), some (Sum.inl (nI j)), some (Sum.inr (Sum.inl (12, gg v k)))], [Sum.inr (Sum.inr ((((Int32.toInt64 (v 13 (gg v k) j)) * (Int32.toInt64 4)) + (Int32.toInt64 (v 14 (gg v k) j))) + ((Int32.toInt64 (v 15 (gg v k) j)) * (Int32.toInt64 64))))], (v, u, c))) rfl rfl ?_
  exact G_fin rfl rfl rfl
set_option maxRecDepth 100000 in
theorem e_declared0 (d : Nat) {n L : Nat} {xs : Nat → Int32} {v u : mV} {c : Nat} {x : Int32} (hn : n ≤ 6) (hc : c = (K_T n).length) (hf : F_n n v) (hx : c_in n x = 0) : E_v false n L xs (d + 2) 46 [Sum.inr (Sum.inl (0, 0)), Sum.inl x] (v, u, c) (some (Sum.inl (-1))) (v, u, c) := by
  refine E_mk mc_46 (by decide) ?_
  refine G_steps 2 (S1 := (2, [some (Sum.inr (Sum.inl (0, 0))), some (Sum.inl x), none, none], [Sum.inl x, Sum.inr (Sum.inl (0, 0))], (v, u, c))) rfl rfl ?_
  refine G_call (y := some (Sum.inl (c_in n x))) (M1 := (v, u, c)) rfl rfl (e_isNode _ hf) ?_
  refine G_is (S' := (5, [some (Sum.inr (Sum.inl (0, 0))), some (Sum.inl x), none, none], [Sum.inl (c_in n x)], (v, u, c))) rfl ?_
  refine G_top hx ?_
  refine G_steps 1 (S1 := (if ¬ 0 = 0 then 10 else 8, [some (Sum.inr (Sum.inl (0, 0))), some (Sum.inl x), none, none], [], (v, u, c))) rfl rfl ?_
  refine G_nF rfl ?_
  refine G_steps 1 (S1 := (9, [some (Sum.inr (Sum.inl (0, 0))), some (Sum.inl x), none, none], [Sum.inl (-1)], (v, u, c))) rfl rfl ?_
  exact G_fin rfl rfl rfl
def c_dc (v : mV) (m : Nat) : Nat → Nat
  | 0 => 0
  | k + 1 => if v 4 k 6 = 0 then c_dc v m k else if v 5 k m = 2 then c_dc v m k + 1 else c_dc v m k
def c_d1 (v : mV) (a : Nat) : Nat → Nat
  | 0 => 0
  | m + 1 => if v 4 a 6 = 0 then c_d1 v a m else if v 4 m 6 = 0 then c_d1 v a m else if v 5 a m = 0 then c_d1 v a m else c_d1 v a m + 1
def c_d2 (n : Nat) (v : mV) : Nat → Nat
  | 0 => 0
  | a + 1 => c_d2 n v a + c_d1 v a n
set_option maxRecDepth 100000 in
theorem e_declared1 (d : Nat) {n L : Nat} {xs : Nat → Int32} {v u : mV} {c : Nat} {m : Nat} (hn : n ≤ 6) (hc : c = (K_T n).length) (hf : F_n n v) (hm : m < n) : E_v false n L xs (d + 2) 46 [Sum.inr (Sum.inl (0, 0)), Sum.inl (nI m)] (v, u, c) (some (Sum.inl (nI (c_dc v m n)))) (v, u, c) := by
  refine E_mk mc_46 (by decide) ?_
  refine G_steps 2 (S1 := (2, [some (Sum.inr (Sum.inl (0, 0))), some (Sum.inl (nI m)), none, none], [Sum.inl (nI m), Sum.inr (Sum.inl (0, 0))], (v, u, c))) rfl rfl ?_
  refine G_call (y := some (Sum.inl (c_in n (nI m)))) (M1 := (v, u, c)) rfl rfl (e_isNode _ hf) ?_
  refine G_is (S' := (5, [some (Sum.inr (Sum.inl (0, 0))), some (Sum.inl (nI m)), none, none], [Sum.inl (c_in n (nI m))], (v, u, c))) rfl ?_
  refine G_top (in_1 hn hm) ?_
  refine G_steps 1 (S1 := (if ¬ 1 = 0 then 10 else 8, [some (Sum.inr (Sum.inl (0, 0))), some (Sum.inl (nI m)), none, none], [], (v, u, c))) rfl rfl ?_
  refine G_nT (by decide) ?_
  refine G_steps 4 (S1 := (14, [some (Sum.inr (Sum.inl (0, 0))), some (Sum.inl (nI m)), some (Sum.inl 0), some (Sum.inl 0)], [], (v, u, c))) rfl rfl ?_
  refine G_is (S' := (14, [some (Sum.inr (Sum.inl (0, 0))), some (Sum.inl (nI m)), some (Sum.inl (nI (c_dc v m 0))), some (Sum.inl (nI 0))], [], (v, u, c))) rfl ?_
  refine G_loop (S := fun k => (14, [some (Sum.inr (Sum.inl (0, 0))), some (Sum.inl (nI m)), some (Sum.inl (nI (c_dc v m k))), some (Sum.inl (nI k))], [], (v, u, c))) (N := n) (fun k hk K => ?_) ?_
  · skip
    refine G_steps 3 (S1 := (19, [some (Sum.inr (Sum.inl (0, 0))), some (Sum.inl (nI m)), some (Sum.inl (nI (c_dc v m k))), some (Sum.inl (nI k))], [Sum.inl (v 0 0 0), Sum.inl (nI k)], (v, u, c))) rfl rfl ?_
    refine G_top hf.1 ?_
    refine G_steps 1 (S1 := (if nI n ≤ nI k then 58 else 22, [some (Sum.inr (Sum.inl (0, 0))), some (Sum.inl (nI m)), some (Sum.inl (nI (c_dc v m k))), some (Sum.inl (nI k))], [], (v, u, c))) rfl rfl ?_
    refine G_iF (fun z => absurd ((nI_le' (by omega) (by omega)).mp z) (by omega)) ?_
    refine G_steps 3 (S1 := (27, [some (Sum.inr (Sum.inl (0, 0))), some (Sum.inl (nI m)), some (Sum.inl (nI (c_dc v m k))), some (Sum.inl (nI k))], [Sum.inl (nI k), Sum.inr (Sum.inl (1, 0))], (v, u, c))) rfl rfl ?_
    refine G_step (S1 := (28, [some (Sum.inr (Sum.inl (0, 0))), some (Sum.inl (nI m)), some (Sum.inl (nI (c_dc v m k))), some (Sum.inl (nI k))], [Sum.inr (Sum.inl (4, ix (nI k)))], (v, u, c))) rfl (ald_n' (n := n) (a := k) hn (by omega) hc) ?_
    rw [ix_nI (j := k) (by omega)]
    refine G_steps 2 (S1 := (if v 4 k 6 = 0 then 52 else 34, [some (Sum.inr (Sum.inl (0, 0))), some (Sum.inl (nI m)), some (Sum.inl (nI (c_dc v m k))), some (Sum.inl (nI k))], [], (v, u, c))) rfl rfl ?_
    refine G_if (fun h1 => ?_) (fun h1 => ?_)
    · skip
      refine G_steps 2 (S1 := (14, [some (Sum.inr (Sum.inl (0, 0))), some (Sum.inl (nI m)), some (Sum.inl (nI (c_dc v m k))), some (Sum.inl ((nI k) + 1))], [], (v, u, c))) rfl rfl ?_
      exact G_is (by simp only [c_dc, nI_succ, if_pos h1]) K
    · skip
      refine G_steps 3 (S1 := (39, [some (Sum.inr (Sum.inl (0, 0))), some (Sum.inl (nI m)), some (Sum.inl (nI (c_dc v m k))), some (Sum.inl (nI k))], [Sum.inl (nI k), Sum.inr (Sum.inl (1, 0))], (v, u, c))) rfl rfl ?_
      refine G_step (S1 := (40, [some (Sum.inr (Sum.inl (0, 0))), some (Sum.inl (nI m)), some (Sum.inl (nI (c_dc v m k))), some (Sum.inl (nI k))], [Sum.inr (Sum.inl (4, ix (nI k)))], (v, u, c))) rfl (ald_n' (n := n) (a := k) hn (by omega) hc) ?_
      rw [ix_nI (j := k) (by omega)]
      refine G_steps 2 (S1 := (44, [some (Sum.inr (Sum.inl (0, 0))), some (Sum.inl (nI m)), some (Sum.inl (nI (c_dc v m k))), some (Sum.inl (nI k))], [Sum.inl (nI m), Sum.inr (Sum.inl (5, k))], (v, u, c))) rfl rfl ?_
      refine G_step (S1 := (45, [some (Sum.inr (Sum.inl (0, 0))), some (Sum.inl (nI m)), some (Sum.inl (nI (c_dc v m k))), some (Sum.inl (nI k))], [Sum.inl (v 5 k (ix (nI m)))], (v, u, c))) rfl (ib_nI (j := m) (len := n) (by omega) (by omega)) ?_
      rw [ix_nI (j := m) (by omega)]
      refine G_steps 2 (S1 := (if ¬ v 5 k m = 2 then 52 else 49, [some (Sum.inr (Sum.inl (0, 0))), some (Sum.inl (nI m)), some (Sum.inl (nI (c_dc v m k))), some (Sum.inl (nI k))], [], (v, u, c))) rfl rfl ?_
      refine G_ifn (fun h2 => ?_) (fun h2 => ?_)
      · skip
        refine G_steps 2 (S1 := (14, [some (Sum.inr (Sum.inl (0, 0))), some (Sum.inl (nI m)), some (Sum.inl (nI (c_dc v m k))), some (Sum.inl ((nI k) + 1))], [], (v, u, c))) rfl rfl ?_
        exact G_is (by simp only [c_dc, nI_succ, if_neg h1, if_neg h2]) K
      · skip
        refine G_steps 3 (S1 := (14, [some (Sum.inr (Sum.inl (0, 0))), some (Sum.inl (nI m)), some (Sum.inl ((nI (c_dc v m k)) + 1)), some (Sum.inl ((nI k) + 1))], [], (v, u, c))) rfl rfl ?_
        exact G_is (by simp only [c_dc, nI_succ, if_neg h1, if_pos h2]) K
  · skip
    refine G_steps 3 (S1 := (19, [some (Sum.inr (Sum.inl (0, 0))), some (Sum.inl (nI m)), some (Sum.inl (nI (c_dc v m n))), some (Sum.inl (nI n))], [Sum.inl (v 0 0 0), Sum.inl (nI n)], (v, u, c))) rfl rfl ?_
    refine G_top hf.1 ?_
    refine G_steps 1 (S1 := (if nI n ≤ nI n then 58 else 22, [some (Sum.inr (Sum.inl (0, 0))), some (Sum.inl (nI m)), some (Sum.inl (nI (c_dc v m n))), some (Sum.inl (nI n))], [], (v, u, c))) rfl rfl ?_
    refine G_iT ((nI_le' (by omega) (by omega)).mpr (Nat.le_refl _)) ?_
    refine G_steps 1 (S1 := (59, [some (Sum.inr (Sum.inl (0, 0))), some (Sum.inl (nI m)), some (Sum.inl (nI (c_dc v m n))), some (Sum.inl (nI n))], [Sum.inl (nI (c_dc v m n))], (v, u, c))) rfl rfl ?_
    exact G_fin rfl rfl rfl
set_option maxRecDepth 100000 in
theorem db_in (d : Nat) {n L : Nat} {xs : Nat → Int32} {v u : mV} {c : Nat} {a : Nat} {Z : aS → Prop} (hn : n ≤ 6) (hc : c = (K_T n).length) (hf : F_n n v) (ha : a < n) (K : G_o false n L xs (E_v false n L xs d) (l_k cd_47) Z (4, [some (Sum.inr (Sum.inl (0, 0))), some (Sum.inl (nI (c_d2 n v (a + 1)))), some (Sum.inl (nI (a + 1))), some (Sum.inl (nI n))], [], (v, u, c))) : G_o false n L xs (E_v false n L xs d) (l_k cd_47) Z (14, [some (Sum.inr (Sum.inl (0, 0))), some (Sum.inl (nI (c_d2 n v a + c_d1 v a 0))), some (Sum.inl (nI a)), some (Sum.inl (nI 0))], [], (v, u, c)) := by
  refine G_loop (S := fun k => (14, [some (Sum.inr (Sum.inl (0, 0))), some (Sum.inl (nI (c_d2 n v a + c_d1 v a k))), some (Sum.inl (nI a)), some (Sum.inl (nI k))], [], (v, u, c))) (N := n) (fun k hk K => ?_) ?_
  · skip
    refine G_steps 3 (S1 := (19, [some (Sum.inr (Sum.inl (0, 0))), some (Sum.inl (nI (c_d2 n v a + c_d1 v a k))), some (Sum.inl (nI a)), some (Sum.inl (nI k))], [Sum.inl (v 0 0 0), Sum.inl (nI k)], (v, u, c))) rfl rfl ?_
    refine G_top hf.1 ?_
    refine G_steps 1 (S1 := (if nI n ≤ nI k then 69 else 22, [some (Sum.inr (Sum.inl (0, 0))), some (Sum.inl (nI (c_d2 n v a + c_d1 v a k))), some (Sum.inl (nI a)), some (Sum.inl (nI k))], [], (v, u, c))) rfl rfl ?_
    refine G_iF (fun z => absurd ((nI_le' (by omega) (by omega)).mp z) (by omega)) ?_
    refine G_steps 3 (S1 := (27, [some (Sum.inr (Sum.inl (0, 0))), some (Sum.inl (nI (c_d2 n v a + c_d1 v a k))), some (Sum.inl (nI a)), some (Sum.inl (nI k))], [Sum.inl (nI a), Sum.inr (Sum.inl (1, 0))], (v, u, c))) rfl rfl ?_
    refine G_step (S1 := (28, [some (Sum.inr (Sum.inl (0, 0))), some (Sum.inl (nI (c_d2 n v a + c_d1 v a k))), some (Sum.inl (nI a)), some (Sum.inl (nI k))], [Sum.inr (Sum.inl (4, ix (nI a)))], (v, u, c))) rfl (ald_n' (n := n) (a := a) hn (by omega) hc) ?_
    rw [ix_nI (j := a) (by omega)]
    refine G_steps 2 (S1 := (if v 4 a 6 = 0 then 63 else 34, [some (Sum.inr (Sum.inl (0, 0))), some (Sum.inl (nI (c_d2 n v a + c_d1 v a k))), some (Sum.inl (nI a)), some (Sum.inl (nI k))], [], (v, u, c))) rfl rfl ?_
    refine G_if (fun h1 => ?_) (fun h1 => ?_)
    · skip
      refine G_steps 2 (S1 := (14, [some (Sum.inr (Sum.inl (0, 0))), some (Sum.inl (nI (c_d2 n v a + c_d1 v a k))), some (Sum.inl (nI a)), some (Sum.inl ((nI k) + 1))], [], (v, u, c))) rfl rfl ?_
      exact G_is (by simp only [c_d1, nI_succ, ← Nat.add_assoc, if_pos h1]) K
    · skip
      refine G_steps 3 (S1 := (39, [some (Sum.inr (Sum.inl (0, 0))), some (Sum.inl (nI (c_d2 n v a + c_d1 v a k))), some (Sum.inl (nI a)), some (Sum.inl (nI k))], [Sum.inl (nI k), Sum.inr (Sum.inl (1, 0))], (v, u, c))) rfl rfl ?_
      refine G_step (S1 := (40, [some (Sum.inr (Sum.inl (0, 0))), some (Sum.inl (nI (c_d2 n v a + c_d1 v a k))), some (Sum.inl (nI a)), some (Sum.inl (nI k))], [Sum.inr (Sum.inl (4, ix (nI k)))], (v, u, c))) rfl (ald_n' (n := n) (a := k) hn (by omega) hc) ?_
      rw [ix_nI (j := k) (by omega)]
      refine G_steps 2 (S1 := (if v 4 k 6 = 0 then 63 else 46, [some (Sum.inr (Sum.inl (0, 0))), some (Sum.inl (nI (c_d2 n v a + c_d1 v a k))), some (Sum.inl (nI a)), some (Sum.inl (nI k))], [], (v, u, c))) rfl rfl ?_
      refine G_if (fun h2 => ?_) (fun h2 => ?_)
      · skip
        refine G_steps 2 (S1 := (14, [some (Sum.inr (Sum.inl (0, 0))), some (Sum.inl (nI (c_d2 n v a + c_d1 v a k))), some (Sum.inl (nI a)), some (Sum.inl ((nI k) + 1))], [], (v, u, c))) rfl rfl ?_
        exact G_is (by simp only [c_d1, nI_succ, ← Nat.add_assoc, if_neg h1, if_pos h2]) K
      · skip
        refine G_steps 3 (S1 := (51, [some (Sum.inr (Sum.inl (0, 0))), some (Sum.inl (nI (c_d2 n v a + c_d1 v a k))), some (Sum.inl (nI a)), some (Sum.inl (nI k))], [Sum.inl (nI a), Sum.inr (Sum.inl (1, 0))], (v, u, c))) rfl rfl ?_
        refine G_step (S1 := (52, [some (Sum.inr (Sum.inl (0, 0))), some (Sum.inl (nI (c_d2 n v a + c_d1 v a k))), some (Sum.inl (nI a)), some (Sum.inl (nI k))], [Sum.inr (Sum.inl (4, ix (nI a)))], (v, u, c))) rfl (ald_n' (n := n) (a := a) hn (by omega) hc) ?_
        rw [ix_nI (j := a) (by omega)]
        refine G_steps 2 (S1 := (56, [some (Sum.inr (Sum.inl (0, 0))), some (Sum.inl (nI (c_d2 n v a + c_d1 v a k))), some (Sum.inl (nI a)), some (Sum.inl (nI k))], [Sum.inl (nI k), Sum.inr (Sum.inl (5, a))], (v, u, c))) rfl rfl ?_
        refine G_step (S1 := (57, [some (Sum.inr (Sum.inl (0, 0))), some (Sum.inl (nI (c_d2 n v a + c_d1 v a k))), some (Sum.inl (nI a)), some (Sum.inl (nI k))], [Sum.inl (v 5 a (ix (nI k)))], (v, u, c))) rfl (ib_nI (j := k) (len := n) (by omega) (by omega)) ?_
        rw [ix_nI (j := k) (by omega)]
        refine G_steps 1 (S1 := (if v 5 a k = 0 then 63 else 60, [some (Sum.inr (Sum.inl (0, 0))), some (Sum.inl (nI (c_d2 n v a + c_d1 v a k))), some (Sum.inl (nI a)), some (Sum.inl (nI k))], [], (v, u, c))) rfl rfl ?_
        refine G_if (fun h3 => ?_) (fun h3 => ?_)
        · skip
          refine G_steps 2 (S1 := (14, [some (Sum.inr (Sum.inl (0, 0))), some (Sum.inl (nI (c_d2 n v a + c_d1 v a k))), some (Sum.inl (nI a)), some (Sum.inl ((nI k) + 1))], [], (v, u, c))) rfl rfl ?_
          exact G_is (by simp only [c_d1, nI_succ, ← Nat.add_assoc, if_neg h1, if_neg h2, if_pos h3]) K
        · skip
          refine G_steps 3 (S1 := (14, [some (Sum.inr (Sum.inl (0, 0))), some (Sum.inl ((nI (c_d2 n v a + c_d1 v a k)) + 1)), some (Sum.inl (nI a)), some (Sum.inl ((nI k) + 1))], [], (v, u, c))) rfl rfl ?_
          exact G_is (by simp only [c_d1, nI_succ, ← Nat.add_assoc, if_neg h1, if_neg h2, if_neg h3]) K
  · skip
    refine G_steps 3 (S1 := (19, [some (Sum.inr (Sum.inl (0, 0))), some (Sum.inl (nI (c_d2 n v a + c_d1 v a n))), some (Sum.inl (nI a)), some (Sum.inl (nI n))], [Sum.inl (v 0 0 0), Sum.inl (nI n)], (v, u, c))) rfl rfl ?_
    refine G_top hf.1 ?_
    refine G_steps 1 (S1 := (if nI n ≤ nI n then 69 else 22, [some (Sum.inr (Sum.inl (0, 0))), some (Sum.inl (nI (c_d2 n v a + c_d1 v a n))), some (Sum.inl (nI a)), some (Sum.inl (nI n))], [], (v, u, c))) rfl rfl ?_
    refine G_iT ((nI_le' (by omega) (by omega)).mpr (Nat.le_refl _)) ?_
    refine G_steps 2 (S1 := (4, [some (Sum.inr (Sum.inl (0, 0))), some (Sum.inl (nI (c_d2 n v a + c_d1 v a n))), some (Sum.inl ((nI a) + 1)), some (Sum.inl (nI n))], [], (v, u, c))) rfl rfl ?_
    exact G_is (by simp only [c_d2, nI_succ]) K
set_option maxRecDepth 100000 in
theorem db_out (d : Nat) {n L : Nat} {xs : Nat → Int32} {v u : mV} {c : Nat} {a : Nat} {Z : aS → Prop} {o : Option aV} (hn : n ≤ 6) (hc : c = (K_T n).length) (hf : F_n n v) (ha : a < n) (K : G_o false n L xs (E_v false n L xs d) (l_k cd_47) Z (4, [some (Sum.inr (Sum.inl (0, 0))), some (Sum.inl (nI (c_d2 n v (a + 1)))), some (Sum.inl (nI (a + 1))), some (Sum.inl (nI n))], [], (v, u, c))) : G_o false n L xs (E_v false n L xs d) (l_k cd_47) Z (4, [some (Sum.inr (Sum.inl (0, 0))), some (Sum.inl (nI (c_d2 n v a))), some (Sum.inl (nI a)), o], [], (v, u, c)) := by
  refine G_steps 3 (S1 := (9, [some (Sum.inr (Sum.inl (0, 0))), some (Sum.inl (nI (c_d2 n v a))), some (Sum.inl (nI a)), o], [Sum.inl (v 0 0 0), Sum.inl (nI a)], (v, u, c))) rfl rfl ?_
  refine G_top hf.1 ?_
  refine G_steps 1 (S1 := (if nI n ≤ nI a then 75 else 12, [some (Sum.inr (Sum.inl (0, 0))), some (Sum.inl (nI (c_d2 n v a))), some (Sum.inl (nI a)), o], [], (v, u, c))) rfl rfl ?_
  refine G_iF (fun z => absurd ((nI_le' (by omega) (by omega)).mp z) (by omega)) ?_
  refine G_steps 2 (S1 := (14, [some (Sum.inr (Sum.inl (0, 0))), some (Sum.inl (nI (c_d2 n v a))), some (Sum.inl (nI a)), some (Sum.inl 0)], [], (v, u, c))) rfl rfl ?_
  exact G_is rfl (db_in d hn hc hf ha K)
set_option maxRecDepth 100000 in
theorem e_doubted (d : Nat) {n L : Nat} {xs : Nat → Int32} {v u : mV} {c : Nat} (hn : n ≤ 6) (hc : c = (K_T n).length) (hf : F_n n v) (hn0 : 0 < n) : E_v false n L xs (d + 1) 47 [Sum.inr (Sum.inl (0, 0))] (v, u, c) (some (Sum.inl (nI (c_d2 n v n)))) (v, u, c) := by
  refine E_mk mc_47 (by decide) ?_
  refine G_steps 4 (S1 := (4, [some (Sum.inr (Sum.inl (0, 0))), some (Sum.inl (nI (c_d2 n v 0))), some (Sum.inl (nI 0)), none], [], (v, u, c))) rfl rfl ?_
  refine db_out d hn hc hf hn0 ?_
  have key : ∀ j, j < n → G_o false n L xs (E_v false n L xs d) (l_k cd_47) (fun S1 => r_F (l_k cd_47) S1 = some (true, some (Sum.inl (nI (c_d2 n v n))), (v, u, c))) (4, [some (Sum.inr (Sum.inl (0, 0))), some (Sum.inl (nI (c_d2 n v (n - j)))), some (Sum.inl (nI (n - j))), some (Sum.inl (nI n))], [], (v, u, c)) := by
    intro j
    induction j with
    | zero =>
      intro hj
      rw [Nat.sub_zero]
      refine G_steps 3 (S1 := (9, [some (Sum.inr (Sum.inl (0, 0))), some (Sum.inl (nI (c_d2 n v n))), some (Sum.inl (nI n)), some (Sum.inl (nI n))], [Sum.inl (v 0 0 0), Sum.inl (nI n)], (v, u, c))) rfl rfl ?_
      refine G_top hf.1 ?_
      refine G_steps 1 (S1 := (if nI n ≤ nI n then 75 else 12, [some (Sum.inr (Sum.inl (0, 0))), some (Sum.inl (nI (c_d2 n v n))), some (Sum.inl (nI n)), some (Sum.inl (nI n))], [], (v, u, c))) rfl rfl ?_
      refine G_iT ((nI_le' (by omega) (by omega)).mpr (Nat.le_refl _)) ?_
      refine G_steps 1 (S1 := (76, [some (Sum.inr (Sum.inl (0, 0))), some (Sum.inl (nI (c_d2 n v n))), some (Sum.inl (nI n)), some (Sum.inl (nI n))], [Sum.inl (nI (c_d2 n v n))], (v, u, c))) rfl rfl ?_
      exact G_fin rfl rfl rfl
    | succ j ih =>
      intro hj
      refine db_out d hn hc hf (by omega) ?_
      rw [show n - (j + 1) + 1 = n - j by omega]
      exact ih (by omega)
  have h1 := key (n - 1) (by omega)
  rw [show n - (n - 1) = 0 + 1 by omega] at h1
  exact h1
