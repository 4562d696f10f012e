/-- a sound node, as far as walks ask -/
def N_C (n : Nat) (v : mV) (a : Nat) : Prop := (v 4 a 7 = nI (ix (v 4 a 7)) ∧ ix (v 4 a 7) < n) ∧ (v 4 a 9 = -1 ∨ ∃ t, t < n ∧ v 4 a 9 = nI t)
theorem rO_ok {n : Nat} {x : Int32} (hn : n ≤ 6) (h : x = -1 ∨ ∃ t, t < n ∧ x = nI t) : x = oI (rO x) ∧ ∀ t, rO x = some t → t < n := by
  rcases h with rfl | ⟨t, ht, rfl⟩
  · exact ⟨rfl, fun t h => by cases h⟩
  · have e : rO (nI t) = some t := by
      unfold rO
      rw [if_neg (nI_m1 (by omega)), ix_nI (by omega)]
    rw [e]
    exact ⟨rfl, fun s h => by cases h; exact ht⟩
theorem ct_9 {v : mV} {a : Nat} {o : Option Nat} : c_ct v a o 4 a 9 = oI o := by
  unfold c_ct
  split
  · rw [u3_n (by omega), u3_s]
  · rw [u3_n (by omega), u3_n (by omega), u3_n (by omega), u3_s]
theorem ct_k {v : mV} {a : Nat} {o : Option Nat} {k : Nat} (h : Nat.beq k 4 = false) : c_ct v a o k = v k := by
  unfold c_ct
  split
  · rw [u3_k h, u3_k h]
  · rw [u3_k h, u3_k h, u3_k h, u3_k h]
theorem m2_k {n a : Nat} {v : mV} {k : Nat} (h : (Nat.beq k 5 || (Nat.beq k 6 || (Nat.beq k 7 || (Nat.beq k 9 || (Nat.beq k 10 || Nat.beq k 11))))) = false) : c_m2 n v a k = v k := (ss_k h).trans (ag_k h)
theorem wc_m3 {n a : Nat} {v : mV} (h : W_C n v) : W_C n (c_m3 n v a) := wc_of h ((ct_k rfl).trans (m2_k rfl)) ((ct_k rfl).trans (m2_k rfl)) (fn_ct (fn_ss (fn_ag h.1)))
theorem wc_mp {n a : Nat} {v : mV} (h : W_C n v) : W_C n (c_mp n v a) := by
  unfold c_mp
  split
  · exact wc_m3 h
  · exact wc_send (wc_m3 h)
set_option maxRecDepth 100000 in
theorem e_makePeriod (d : Nat) {n L : Nat} {xs : Nat → Int32} {v u : mV} {c : Nat} {a : Nat} (hn : n ≤ 6) (hc : c = (K_T n).length) (hw : W_C n v) (ha : a < n) (hN : N_C n v a) : E_v false n L xs (d + 4) 8 [Sum.inr (Sum.inl (0, 0)), Sum.inr (Sum.inl (4, a))] (v, u, c) (some (Sum.inl (oI (c_mo n v a)))) (c_mp n v a, u, c) := by
  refine E_mk mc_8 (by decide) ?_
  refine G_steps 1 (S1 := (1, [some (Sum.inr (Sum.inl (0, 0))), some (Sum.inr (Sum.inl (4, a)))], [Sum.inr (Sum.inl (4, a))], (v, u, c))) rfl rfl ?_
  refine G_call (y := none) (M1 := (c_ag v a n, u, c)) rfl rfl (e_ageSuspects _ hn hw.1 ha) ?_
  refine G_is (S' := (4, [some (Sum.inr (Sum.inl (0, 0))), some (Sum.inr (Sum.inl (4, a)))], [], (c_ag v a n, u, c))) rfl ?_
  refine G_steps 1 (S1 := (5, [some (Sum.inr (Sum.inl (0, 0))), some (Sum.inr (Sum.inl (4, a)))], [Sum.inr (Sum.inl (4, a))], (c_ag v a n, u, c))) rfl rfl ?_
  refine G_call (y := none) (M1 := (c_m2 n v a, u, c)) rfl rfl (e_suspect _ hn ((congrFun (congrFun (ag_k rfl) a) 9).trans (rO_ok hn hN.2).1) (rO_ok hn hN.2).2) ?_
  refine G_is (S' := (8, [some (Sum.inr (Sum.inl (0, 0))), some (Sum.inr (Sum.inl (4, a)))], [], (c_m2 n v a, u, c))) rfl ?_
  refine G_steps 1 (S1 := (9, [some (Sum.inr (Sum.inl (0, 0))), some (Sum.inr (Sum.inl (4, a)))], [Sum.inr (Sum.inl (4, a))], (c_m2 n v a, u, c))) rfl rfl ?_
  refine G_call (y := none) (M1 := (c_m3 n v a, u, c)) rfl rfl (e_chooseTarget _ hn (fn_ss (fn_ag hw.1)) ha hN.1.2 ((congrFun (congrFun (m2_k rfl) a) 7).trans hN.1.1)) ?_
  refine G_is (S' := (12, [some (Sum.inr (Sum.inl (0, 0))), some (Sum.inr (Sum.inl (4, a)))], [], (c_m3 n v a, u, c))) rfl ?_
  refine G_steps 2 (S1 := (16, [some (Sum.inr (Sum.inl (0, 0))), some (Sum.inr (Sum.inl (4, a)))], [Sum.inl ((c_m3 n v a) 4 a 9)], (c_m3 n v a, u, c))) rfl rfl ?_
  refine G_top ct_9 ?_
  refine G_steps 2 (S1 := (if oI (c_mo n v a) = (-1) then 42 else 20, [some (Sum.inr (Sum.inl (0, 0))), some (Sum.inr (Sum.inl (4, a)))], [], (c_m3 n v a, u, c))) rfl rfl ?_
  refine G_if (fun h1 => ?_) (fun h1 => ?_)
  · skip
    refine G_steps 2 (S1 := (46, [some (Sum.inr (Sum.inl (0, 0))), some (Sum.inr (Sum.inl (4, a)))], [Sum.inl ((c_m3 n v a) 4 a 9)], (c_m3 n v a, u, c))) rfl rfl ?_
    refine G_top ct_9 ?_
    exact G_fin rfl rfl (M_1 (by rw [c_mp, if_pos h1]))
  · skip
    refine G_steps 5 (S1 := (27, [some (Sum.inr (Sum.inl (0, 0))), some (Sum.inr (Sum.inl (4, a)))], [Sum.inl ((c_m3 n v a) 4 a 9), Sum.inr (Sum.inl (4, a)), Sum.inl 1, Sum.inr (Sum.inl (0, 0))], (c_m3 n v a, u, c))) rfl rfl ?_
    refine G_top ct_9 ?_
    refine G_steps 2 (S1 := (31, [some (Sum.inr (Sum.inl (0, 0))), some (Sum.inr (Sum.inl (4, a)))], [Sum.inl ((c_m3 n v a) 4 a 0), Sum.inl (oI (c_mo n v a)), Sum.inr (Sum.inl (4, a)), Sum.inl 1, Sum.inr (Sum.inl (0, 0))], (c_m3 n v a, u, c))) rfl rfl ?_
    refine G_top (((wc_m3 (a := a) hw).1.2 a (by omega)).1) ?_
    refine G_steps 2 (S1 := (35, [some (Sum.inr (Sum.inl (0, 0))), some (Sum.inr (Sum.inl (4, a)))], [Sum.inl ((c_m3 n v a) 4 a 9), Sum.inl (nI a), Sum.inl (oI (c_mo n v a)), Sum.inr (Sum.inl (4, a)), Sum.inl 1, Sum.inr (Sum.inl (0, 0))], (c_m3 n v a, u, c))) rfl rfl ?_
    refine G_top ct_9 ?_
    refine G_steps 2 (S1 := (39, [some (Sum.inr (Sum.inl (0, 0))), some (Sum.inr (Sum.inl (4, a)))], [Sum.inl ((c_m3 n v a) 4 a 8), Sum.inl (oI (c_mo n v a)), Sum.inl (nI a), Sum.inl (oI (c_mo n v a)), Sum.inr (Sum.inl (4, a)), Sum.inl 1, Sum.inr (Sum.inl (0, 0))], (c_m3 n v a, u, c))) rfl rfl ?_
    refine G_call (y := none) (M1 := (c_send n (c_m3 n v a) a 1 (oI (c_mo n v a)) (nI a) (oI (c_mo n v a)) ((c_m3 n v a) 4 a 8) (gg (c_m3 n v a) (zz (c_m3 n v a))) (zz (c_m3 n v a)), u, c)) rfl rfl (e_send _ hn hc (wc_m3 hw).1 (by omega) (wc_m3 hw).2.1.1 (wc_m3 hw).2.1.2 ((wc_m3 hw).2.2 _ (Nat.lt_succ_of_le (wc_m3 hw).2.1.2)).1 ((wc_m3 hw).2.2 _ (Nat.lt_succ_of_le (wc_m3 hw).2.1.2)).2) ?_
    refine G_is (S' := (42, [some (Sum.inr (Sum.inl (0, 0))), some (Sum.inr (Sum.inl (4, a)))], [], (c_send n (c_m3 n v a) a 1 (oI (c_mo n v a)) (nI a) (oI (c_mo n v a)) ((c_m3 n v a) 4 a 8) (gg (c_m3 n v a) (zz (c_m3 n v a))) (zz (c_m3 n v a)), u, c))) rfl ?_
    refine G_steps 2 (S1 := (46, [some (Sum.inr (Sum.inl (0, 0))), some (Sum.inr (Sum.inl (4, a)))], [Sum.inl ((c_send n (c_m3 n v a) a 1 (oI (c_mo n v a)) (nI a) (oI (c_mo n v a)) ((c_m3 n v a) 4 a 8) (gg (c_m3 n v a) (zz (c_m3 n v a))) (zz (c_m3 n v a))) 4 a 9)], (c_send n (c_m3 n v a) a 1 (oI (c_mo n v a)) (nI a) (oI (c_mo n v a)) ((c_m3 n v a) 4 a 8) (gg (c_m3 n v a) (zz (c_m3 n v a))) (zz (c_m3 n v a)), u, c))) rfl rfl ?_
    refine G_top ((congrFun (congrFun ((send_k (k := 4) rfl).trans (pf_k rfl)) a) 9).trans ct_9) ?_
    exact G_fin rfl rfl (M_1 (by rw [c_mp, if_neg h1]))
set_option maxRecDepth 100000 in
theorem ask_loop (d : Nat) {n L : Nat} {xs : Nat → Int32} {u : mV} {c a : Nat} {y : Option aV} {M1 : aM} (hn : n ≤ 6) (hn0 : 0 < n) (hc : c = (K_T n).length) (ha : a < n) : ∀ (r t k as : Nat) (v : mV), W_C n v → t < n → k + r = n → y = some (Sum.inl (nI (c_ask n a r t as v).1)) → M1 = ((c_ask n a r t as v).2, u, c) → G_o false n L xs (E_v false n L xs (d + 3)) (l_k cd_23) (fun S1 => r_F (l_k cd_23) S1 = some (true, y, M1)) (10, [some (Sum.inr (Sum.inl (0, 0))), some (Sum.inr (Sum.inl (4, a))), some (Sum.inl (nI as)), some (Sum.inl (nI t)), some (Sum.inl (nI k))], [], (v, u, c)) := by
  intro r
  induction r with
  | zero =>
    intro t k as v hw ht hk hy hM
    refine G_steps 3 (S1 := (16, [some (Sum.inr (Sum.inl (0, 0))), some (Sum.inr (Sum.inl (4, a))), some (Sum.inl (nI as)), some (Sum.inl (nI t)), some (Sum.inl (nI k))], [Sum.inl (v 0 0 0), Sum.inl (nI k)], (v, u, c))) rfl rfl ?_
    refine G_top hw.1.1 ?_
    refine G_steps 1 (S1 := (if nI n ≤ nI k then 66 else 19, [some (Sum.inr (Sum.inl (0, 0))), some (Sum.inr (Sum.inl (4, a))), some (Sum.inl (nI as)), some (Sum.inl (nI t)), some (Sum.inl (nI k))], [], (v, u, c))) rfl rfl ?_
    refine G_iT ((nI_le' (by omega) (by omega)).mpr (by omega)) ?_
    refine G_steps 1 (S1 := (67, [some (Sum.inr (Sum.inl (0, 0))), some (Sum.inr (Sum.inl (4, a))), some (Sum.inl (nI as)), some (Sum.inl (nI t)), some (Sum.inl (nI k))], [Sum.inl (nI as)], (v, u, c))) rfl rfl ?_
    exact G_fin rfl (by rw [hy]; simp only [c_ask]) (by rw [hM]; simp only [c_ask])
  | succ r ih =>
    intro t k as v hw ht hk hy hM
    have hx := nx_lt (t := t) hn0
    refine G_steps 3 (S1 := (16, [some (Sum.inr (Sum.inl (0, 0))), some (Sum.inr (Sum.inl (4, a))), some (Sum.inl (nI as)), some (Sum.inl (nI t)), some (Sum.inl (nI k))], [Sum.inl (v 0 0 0), Sum.inl (nI k)], (v, u, c))) rfl rfl ?_
    refine G_top hw.1.1 ?_
    refine G_steps 1 (S1 := (if nI n ≤ nI k then 66 else 19, [some (Sum.inr (Sum.inl (0, 0))), some (Sum.inr (Sum.inl (4, a))), some (Sum.inl (nI as)), some (Sum.inl (nI t)), some (Sum.inl (nI k))], [], (v, u, c))) rfl rfl ?_
    refine G_iF (fun z => absurd ((nI_le' (by omega) (by omega)).mp z) (by omega)) ?_
    refine G_steps 3 (S1 := (if 2 ≤ nI as then 66 else 24, [some (Sum.inr (Sum.inl (0, 0))), some (Sum.inr (Sum.inl (4, a))), some (Sum.inl (nI as)), some (Sum.inl (nI t)), some (Sum.inl (nI k))], [], (v, u, c))) rfl rfl ?_
    refine G_if (fun h1 => ?_) (fun h1 => ?_)
    · skip
      refine G_steps 1 (S1 := (67, [some (Sum.inr (Sum.inl (0, 0))), some (Sum.inr (Sum.inl (4, a))), some (Sum.inl (nI as)), some (Sum.inl (nI t)), some (Sum.inl (nI k))], [Sum.inl (nI as)], (v, u, c))) rfl rfl ?_
      exact G_fin rfl (by rw [hy]; simp only [c_ask, if_pos h1]) (by rw [hM]; simp only [c_ask, if_pos h1])
    · skip
      refine G_steps 2 (S1 := (26, [some (Sum.inr (Sum.inl (0, 0))), some (Sum.inr (Sum.inl (4, a))), some (Sum.inl (nI as)), some (Sum.inl (nI t)), some (Sum.inl (nI k))], [Sum.inl (nI t), Sum.inr (Sum.inl (4, a))], (v, u, c))) rfl rfl ?_
      refine G_call (y := some (Sum.inl (nI (nx n t)))) (M1 := (v, u, c)) rfl rfl (e_nextAfter _ hn hw.1 ha ht) ?_
      refine G_is (S' := (29, [some (Sum.inr (Sum.inl (0, 0))), some (Sum.inr (Sum.inl (4, a))), some (Sum.inl (nI as)), some (Sum.inl (nI t)), some (Sum.inl (nI k))], [Sum.inl (nI (nx n t))], (v, u, c))) rfl ?_
      refine G_steps 3 (S1 := (32, [some (Sum.inr (Sum.inl (0, 0))), some (Sum.inr (Sum.inl (4, a))), some (Sum.inl (nI as)), some (Sum.inl (nI (nx n t))), some (Sum.inl (nI k))], [Sum.inl (nI (nx n t)), Sum.inr (Sum.inl (4, a))], (v, u, c))) rfl rfl ?_
      refine G_call (y := some (Sum.inl (c_ma v a (nx n t)))) (M1 := (v, u, c)) rfl rfl (e_mayAsk _ hn hw.1 ha hx) ?_
      refine G_is (S' := (35, [some (Sum.inr (Sum.inl (0, 0))), some (Sum.inr (Sum.inl (4, a))), some (Sum.inl (nI as)), some (Sum.inl (nI (nx n t))), some (Sum.inl (nI k))], [Sum.inl (c_ma v a (nx n t))], (v, u, c))) rfl ?_
      refine G_steps 1 (S1 := (if c_ma v a (nx n t) = 0 then 60 else 38, [some (Sum.inr (Sum.inl (0, 0))), some (Sum.inr (Sum.inl (4, a))), some (Sum.inl (nI as)), some (Sum.inl (nI (nx n t))), some (Sum.inl (nI k))], [], (v, u, c))) rfl rfl ?_
      refine G_if (fun h2 => ?_) (fun h2 => ?_)
      · skip
        refine G_steps 2 (S1 := (10, [some (Sum.inr (Sum.inl (0, 0))), some (Sum.inr (Sum.inl (4, a))), some (Sum.inl (nI as)), some (Sum.inl (nI (nx n t))), some (Sum.inl ((nI k) + 1))], [], (v, u, c))) rfl rfl ?_
        rw [← nI_succ]
        exact ih (nx n t) (k + 1) as v hw hx (by omega) (by rw [hy]; simp only [c_ask, if_neg h1, if_pos h2]) (by rw [hM]; simp only [c_ask, if_neg h1, if_pos h2])
      · skip
        refine G_steps 6 (S1 := (46, [some (Sum.inr (Sum.inl (0, 0))), some (Sum.inr (Sum.inl (4, a))), some (Sum.inl (nI as)), some (Sum.inl (nI (nx n t))), some (Sum.inl (nI k))], [Sum.inl (v 4 a 0), Sum.inl (nI (nx n t)), Sum.inr (Sum.inl (4, a)), Sum.inl 3, Sum.inr (Sum.inl (0, 0))], (v, u, c))) rfl rfl ?_
        refine G_top ((hw.1.2 a (by omega)).1) ?_
        refine G_steps 4 (S1 := (54, [some (Sum.inr (Sum.inl (0, 0))), some (Sum.inr (Sum.inl (4, a))), some (Sum.inl (nI as)), some (Sum.inl (nI (nx n t))), some (Sum.inl (nI k))], [Sum.inl (v 4 a 8), Sum.inl (v 4 a 9), Sum.inl (nI a), Sum.inl (nI (nx n t)), Sum.inr (Sum.inl (4, a)), Sum.inl 3, Sum.inr (Sum.inl (0, 0))], (v, u, c))) rfl rfl ?_
        refine G_call (y := none) (M1 := (c_send n v a 3 (nI (nx n t)) (nI a) (v 4 a 9) (v 4 a 8) (gg v (zz v)) (zz v), u, c)) rfl rfl (e_send _ hn hc (hw).1 (by omega) (hw).2.1.1 (hw).2.1.2 ((hw).2.2 _ (Nat.lt_succ_of_le (hw).2.1.2)).1 ((hw).2.2 _ (Nat.lt_succ_of_le (hw).2.1.2)).2) ?_
        refine G_is (S' := (57, [some (Sum.inr (Sum.inl (0, 0))), some (Sum.inr (Sum.inl (4, a))), some (Sum.inl (nI as)), some (Sum.inl (nI (nx n t))), some (Sum.inl (nI k))], [], (c_send n v a 3 (nI (nx n t)) (nI a) (v 4 a 9) (v 4 a 8) (gg v (zz v)) (zz v), u, c))) rfl ?_
        refine G_steps 3 (S1 := (10, [some (Sum.inr (Sum.inl (0, 0))), some (Sum.inr (Sum.inl (4, a))), some (Sum.inl ((nI as) + 1)), some (Sum.inl (nI (nx n t))), some (Sum.inl ((nI k) + 1))], [], (c_send n v a 3 (nI (nx n t)) (nI a) (v 4 a 9) (v 4 a 8) (gg v (zz v)) (zz v), u, c))) rfl rfl ?_
        rw [← nI_succ, ← nI_succ]
        exact ih (nx n t) (k + 1) (as + 1) _ (wc_send hw) hx (by omega) (by rw [hy]; simp only [c_ask, if_neg h1, if_neg h2]) (by rw [hM]; simp only [c_ask, if_neg h1, if_neg h2])
set_option maxRecDepth 100000 in
theorem e_askForHelp (d : Nat) {n L : Nat} {xs : Nat → Int32} {v u : mV} {c : Nat} {a t : Nat} (hn : n ≤ 6) (hc : c = (K_T n).length) (hw : W_C n v) (ha : a < n) (ht : t < n) (hto : v 4 a 9 = nI t) : E_v false n L xs (d + 4) 23 [Sum.inr (Sum.inl (0, 0)), Sum.inr (Sum.inl (4, a))] (v, u, c) (some (Sum.inl (nI (c_ask n a (n - 1) t 0 v).1))) ((c_ask n a (n - 1) t 0 v).2, u, c) := by
  refine E_mk mc_23 (by decide) ?_
  refine G_steps 4 (S1 := (6, [some (Sum.inr (Sum.inl (0, 0))), some (Sum.inr (Sum.inl (4, a))), some (Sum.inl 0), none, none], [Sum.inl (v 4 a 9)], (v, u, c))) rfl rfl ?_
  refine G_top hto ?_
  refine G_steps 3 (S1 := (10, [some (Sum.inr (Sum.inl (0, 0))), some (Sum.inr (Sum.inl (4, a))), some (Sum.inl (nI 0)), some (Sum.inl (nI t)), some (Sum.inl (nI 1))], [], (v, u, c))) rfl rfl ?_
  exact ask_loop d hn (by omega) hc ha (n - 1) t 1 0 v hw ht (by omega) rfl rfl
def c_aa (n : Nat) : Nat → mV → mV
  | 0, v => v
  | r + 1, v => if v 2 0 1 ≤ 0 then v else c_aa n r (c_arr n v 0)
def c_an (n : Nat) : Nat → mV → Nat
  | 0, _ => 0
  | r + 1, v => if v 2 0 1 ≤ 0 then 0 else c_an n r (c_arr n v 0) + 1
/-- what a walk asks of a state and of the ways on from it -/
def I_C (n : Nat) (v : mV) : Prop := W_C n v ∧ (∀ k, k < zz v → M_C n v (gg v k)) ∧ (∀ i j, i < 25 → j < 25 → gg v i = gg v j → i = j) ∧ ∀ a, a < n → N_C n v a
theorem zz_pos {n : Nat} {v : mV} (hw : W_C n v) (h : ¬ v 2 0 1 ≤ 0) : 0 < zz v := by
  rcases Nat.eq_zero_or_pos (zz v) with z | z
  · refine absurd ?_ h
    rw [hw.2.1.1, z]
    decide
  · exact z
set_option maxRecDepth 100000 in
theorem aa_loop (d : Nat) {n L : Nat} {xs : Nat → Int32} {u : mV} {c : Nat} {y : Option aV} {M1 : aM} {I : mV → Prop} (hn : n ≤ 6) (hc : c = (K_T n).length) (hI : ∀ v, I v → I_C n v) (hA : ∀ v, I v → 0 < zz v → I (c_arr n v 0)) : ∀ (r k : Nat) (v : mV), I v → k + r = 10000 → y = some (Sum.inl (nI (k + c_an n r v))) → M1 = (c_aa n r v, u, c) → G_o false n L xs (E_v false n L xs (d + 5)) (l_k cd_36) (fun S1 => r_F (l_k cd_36) S1 = some (true, y, M1)) (2, [some (Sum.inr (Sum.inl (0, 0))), some (Sum.inl (nI k))], [], (v, u, c)) := by
  intro r
  induction r with
  | zero =>
    intro k v hv hk hy hM
    refine G_steps 3 (S1 := (if 10000 ≤ nI k then 31 else 9, [some (Sum.inr (Sum.inl (0, 0))), some (Sum.inl (nI k))], [], (v, u, c))) rfl rfl ?_
    refine G_iT ((nI_le' (a := 10000) (by omega) (by omega)).mpr (by omega)) ?_
    refine G_steps 1 (S1 := (32, [some (Sum.inr (Sum.inl (0, 0))), some (Sum.inl (nI k))], [Sum.inl (nI k)], (v, u, c))) rfl rfl ?_
    exact G_fin rfl (by rw [hy]; simp only [c_an, Nat.add_zero]) (by rw [hM]; simp only [c_aa])
  | succ r ih =>
    intro k v hv hk hy hM
    refine G_steps 3 (S1 := (if 10000 ≤ nI k then 31 else 9, [some (Sum.inr (Sum.inl (0, 0))), some (Sum.inl (nI k))], [], (v, u, c))) rfl rfl ?_
    refine G_iF (fun z => absurd ((nI_le' (a := 10000) (by omega) (by omega)).mp z) (by omega)) ?_
    refine G_steps 4 (S1 := (if v 2 0 1 ≤ 0 then 31 else 19, [some (Sum.inr (Sum.inl (0, 0))), some (Sum.inl (nI k))], [], (v, u, c))) rfl rfl ?_
    refine G_if (fun h1 => ?_) (fun h1 => ?_)
    · skip
      refine G_steps 1 (S1 := (32, [some (Sum.inr (Sum.inl (0, 0))), some (Sum.inl (nI k))], [Sum.inl (nI k)], (v, u, c))) rfl rfl ?_
      exact G_fin rfl (by rw [hy]; simp only [c_an, Nat.add_zero, if_pos h1]) (by rw [hM]; simp only [c_aa, if_pos h1])
    · skip
      refine G_steps 2 (S1 := (21, [some (Sum.inr (Sum.inl (0, 0))), some (Sum.inl (nI k))], [Sum.inl 0, Sum.inr (Sum.inl (0, 0))], (v, u, c))) rfl rfl ?_
      refine G_call (y := some (Sum.inl (v 12 (gg v 0) 0))) (M1 := (c_arr n v 0, u, c)) rfl rfl (e_arrive (k := 0) _ hn hc (hI v hv).1 (zz_pos (hI v hv).1 h1) ((hI v hv).2.1 0 (zz_pos (hI v hv).1 h1)) (hI v hv).2.2.1) ?_
      refine G_is (S' := (24, [some (Sum.inr (Sum.inl (0, 0))), some (Sum.inl (nI k))], [Sum.inl (v 12 (gg v 0) 0)], (c_arr n v 0, u, c))) rfl ?_
      refine G_steps 3 (S1 := (2, [some (Sum.inr (Sum.inl (0, 0))), some (Sum.inl ((nI k) + 1))], [], (c_arr n v 0, u, c))) rfl rfl ?_
      rw [← nI_succ]
      exact ih (k + 1) _ (hA v hv (zz_pos (hI v hv).1 h1)) (by omega) (by rw [hy, c_an, if_neg h1, show k + (c_an n r (c_arr n v 0) + 1) = k + 1 + c_an n r (c_arr n v 0) by omega]) (by rw [hM, c_aa, if_neg h1])
set_option maxRecDepth 100000 in
theorem e_arriveAll (d : Nat) {n L : Nat} {xs : Nat → Int32} {v u : mV} {c : Nat} {I : mV → Prop} (hn : n ≤ 6) (hc : c = (K_T n).length) (hI : ∀ v, I v → I_C n v) (hA : ∀ v, I v → 0 < zz v → I (c_arr n v 0)) (hv : I v) : E_v false n L xs (d + 6) 36 [Sum.inr (Sum.inl (0, 0))] (v, u, c) (some (Sum.inl (nI (c_an n 10000 v)))) (c_aa n 10000 v, u, c) := by
  refine E_mk mc_36 (by decide) ?_
  refine G_steps 2 (S1 := (2, [some (Sum.inr (Sum.inl (0, 0))), some (Sum.inl (nI 0))], [], (v, u, c))) rfl rfl ?_
  exact aa_loop d hn hc hI hA 10000 0 v hv rfl (by rw [Nat.zero_add]) rfl
