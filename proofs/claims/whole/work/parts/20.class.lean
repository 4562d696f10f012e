def c_q1 (n : Nat) (v : mV) : Nat → mV
  | 0 => v
  | k + 1 => if c_q1 n v k 4 k 6 = 0 then c_q1 n v k else c_mp n (c_q1 n v k) k
def c_q2 (n : Nat) (v : mV) : Nat → mV
  | 0 => v
  | k + 1 => if c_q2 n v k 4 k 6 = 0 then c_q2 n v k else if c_wt (c_q2 n v k) k = 0 then c_q2 n v k else (c_ask n k (n - 1) (ix (c_q2 n v k 4 k 9)) 0 (c_q2 n v k)).2
def c_rv (n : Nat) (v : mV) : mV := c_aa n 10000 (c_q2 n (c_aa n 10000 (c_q1 n v n)) n)
def c_ry (n : Nat) (v : mV) : Int32 := nI (c_an n 10000 (c_q1 n v n)) + nI (c_an n 10000 (c_q2 n (c_aa n 10000 (c_q1 n v n)) n))
/-- an invariant of the class, kept by all that a round does -/
def K_C (n : Nat) (I : mV → Prop) : Prop := (∀ v, I v → I_C n v) ∧ (∀ v, I v → 0 < zz v → I (c_arr n v 0)) ∧ (∀ v a, I v → a < n → ¬ v 4 a 6 = 0 → I (c_mp n v a)) ∧ ∀ v a, I v → a < n → ¬ v 4 a 6 = 0 → ¬ c_wt v a = 0 → I (c_ask n a (n - 1) (ix (v 4 a 9)) 0 v).2
theorem q1_I {n : Nat} {I : mV → Prop} {v : mV} (hK : K_C n I) (hv : I v) : ∀ k, k ≤ n → I (c_q1 n v k) := by
  intro k
  induction k with
  | zero => exact fun _ => hv
  | succ k ih =>
    intro hk
    unfold c_q1
    split
    · exact ih (by omega)
    · rename_i h
      exact hK.2.2.1 _ k (ih (by omega)) (by omega) h
theorem q2_I {n : Nat} {I : mV → Prop} {v : mV} (hK : K_C n I) (hv : I v) : ∀ k, k ≤ n → I (c_q2 n v k) := by
  intro k
  induction k with
  | zero => exact fun _ => hv
  | succ k ih =>
    intro hk
    unfold c_q2
    split
    · exact ih (by omega)
    · rename_i h
      split
      · exact ih (by omega)
      · rename_i h2
        exact hK.2.2.2 _ k (ih (by omega)) (by omega) h h2
theorem aa_I {n : Nat} {I : mV → Prop} (hK : K_C n I) : ∀ (r : Nat) (v : mV), I v → I (c_aa n r v) := by
  intro r
  induction r with
  | zero => exact fun _ h => h
  | succ r ih =>
    intro v hv
    unfold c_aa
    split
    · exact hv
    · rename_i h
      exact ih _ (hK.2.1 v hv (zz_pos (hK.1 v hv).1 h))
theorem wt_tg {n a : Nat} {v : mV} (hn : n ≤ 6) (hN : N_C n v a) (h : ¬ c_wt v a = 0) : v 4 a 9 = nI (ix (v 4 a 9)) ∧ ix (v 4 a 9) < n := by
  rcases hN.2 with z | ⟨t, ht, z⟩
  · exact absurd (if_pos z) h
  · rw [z, ix_nI (by omega)]
    exact ⟨rfl, ht⟩
set_option maxRecDepth 100000 in
theorem e_round (d : Nat) {n L : Nat} {xs : Nat → Int32} {v u : mV} {c : Nat} {I : mV → Prop} (hn : n ≤ 6) (hc : c = (K_T n).length) (hK : K_C n I) (hv : I v) : E_v false n L xs (d + 7) 35 [Sum.inr (Sum.inl (0, 0))] (v, u, c) (some (Sum.inl (c_ry n v))) (c_rv n v, u, c) := by
  refine E_mk mc_35 (by decide) ?_
  refine G_steps 2 (S1 := (2, [some (Sum.inr (Sum.inl (0, 0))), some (Sum.inl (nI 0)), none], [], (c_q1 n v 0, u, c))) rfl rfl ?_
  refine G_loop (S := fun k => (2, [some (Sum.inr (Sum.inl (0, 0))), some (Sum.inl (nI k)), none], [], (c_q1 n v k, u, c))) (N := n) (fun k hk K => ?_) ?_
  · have hi := hK.1 _ (q1_I hK hv k (by omega))
    refine G_steps 3 (S1 := (7, [some (Sum.inr (Sum.inl (0, 0))), some (Sum.inl (nI k)), none], [Sum.inl ((c_q1 n v k) 0 0 0), Sum.inl (nI k)], (c_q1 n v k, u, c))) rfl rfl ?_
    refine G_top hi.1.1.1 ?_
    refine G_steps 1 (S1 := (if nI n ≤ nI k then 39 else 10, [some (Sum.inr (Sum.inl (0, 0))), some (Sum.inl (nI k)), none], [], (c_q1 n v k, u, c))) rfl rfl ?_
    refine G_iF (fun z => absurd ((nI_le' (by omega) (by omega)).mp z) (by omega)) ?_
    refine G_steps 3 (S1 := (15, [some (Sum.inr (Sum.inl (0, 0))), some (Sum.inl (nI k)), none], [Sum.inl (nI k), Sum.inr (Sum.inl (1, 0))], (c_q1 n v k, u, c))) rfl rfl ?_
    refine G_step (S1 := (16, [some (Sum.inr (Sum.inl (0, 0))), some (Sum.inl (nI k)), none], [Sum.inr (Sum.inl (4, ix (nI k)))], (c_q1 n v k, u, c))) rfl (ald_n' (n := n) (a := k) hn (by omega) hc) ?_
    rw [ix_nI (j := k) (by omega)]
    refine G_steps 2 (S1 := (if (c_q1 n v k) 4 k 6 = 0 then 33 else 22, [some (Sum.inr (Sum.inl (0, 0))), some (Sum.inl (nI k)), none], [], (c_q1 n v k, u, c))) rfl rfl ?_
    refine G_if (fun h1 => ?_) (fun h1 => ?_)
    · skip
      refine G_steps 2 (S1 := (2, [some (Sum.inr (Sum.inl (0, 0))), some (Sum.inl ((nI k) + 1)), none], [], (c_q1 n v k, u, c))) rfl rfl ?_
      exact G_is (by simp only [c_q1, nI_succ, if_pos h1]) K
    · skip
      refine G_steps 4 (S1 := (28, [some (Sum.inr (Sum.inl (0, 0))), some (Sum.inl (nI k)), none], [Sum.inl (nI k), Sum.inr (Sum.inl (1, 0)), Sum.inr (Sum.inl (0, 0))], (c_q1 n v k, u, c))) rfl rfl ?_
      refine G_step (S1 := (29, [some (Sum.inr (Sum.inl (0, 0))), some (Sum.inl (nI k)), none], [Sum.inr (Sum.inl (4, ix (nI k))), Sum.inr (Sum.inl (0, 0))], (c_q1 n v k, u, c))) rfl (ald_n' (n := n) (a := k) hn (by omega) hc) ?_
      rw [ix_nI (j := k) (by omega)]
      refine G_call (y := some (Sum.inl (oI (c_mo n (c_q1 n v k) k)))) (M1 := (c_mp n (c_q1 n v k) k, u, c)) rfl rfl (e_makePeriod _ hn hc hi.1 hk (hi.2.2.2 k hk)) ?_
      refine G_is (S' := (32, [some (Sum.inr (Sum.inl (0, 0))), some (Sum.inl (nI k)), none], [Sum.inl (oI (c_mo n (c_q1 n v k) k))], (c_mp n (c_q1 n v k) k, u, c))) rfl ?_
      refine G_steps 3 (S1 := (2, [some (Sum.inr (Sum.inl (0, 0))), some (Sum.inl ((nI k) + 1)), none], [], (c_mp n (c_q1 n v k) k, u, c))) rfl rfl ?_
      exact G_is (by simp only [c_q1, nI_succ, if_neg h1]) K
  · have hv2 := aa_I hK 10000 _ (q1_I hK hv n (Nat.le_refl _))
    refine G_steps 3 (S1 := (7, [some (Sum.inr (Sum.inl (0, 0))), some (Sum.inl (nI n)), none], [Sum.inl ((c_q1 n v n) 0 0 0), Sum.inl (nI n)], (c_q1 n v n, u, c))) rfl rfl ?_
    refine G_top ((hK.1 _ (q1_I hK hv n (Nat.le_refl _))).1.1.1) ?_
    refine G_steps 1 (S1 := (if nI n ≤ nI n then 39 else 10, [some (Sum.inr (Sum.inl (0, 0))), some (Sum.inl (nI n)), none], [], (c_q1 n v n, u, c))) rfl rfl ?_
    refine G_iT ((nI_le' (by omega) (by omega)).mpr (Nat.le_refl _)) ?_
    refine G_steps 1 (S1 := (40, [some (Sum.inr (Sum.inl (0, 0))), some (Sum.inl (nI n)), none], [Sum.inr (Sum.inl (0, 0))], (c_q1 n v n, u, c))) rfl rfl ?_
    refine G_call (y := some (Sum.inl (nI (c_an n 10000 (c_q1 n v n))))) (M1 := (c_aa n 10000 (c_q1 n v n), u, c)) rfl rfl (e_arriveAll _ hn hc hK.1 hK.2.1 (q1_I hK hv n (Nat.le_refl _))) ?_
    refine G_is (S' := (43, [some (Sum.inr (Sum.inl (0, 0))), some (Sum.inl (nI n)), none], [Sum.inl (nI (c_an n 10000 (c_q1 n v n)))], (c_aa n 10000 (c_q1 n v n), u, c))) rfl ?_
    refine G_steps 3 (S1 := (46, [some (Sum.inr (Sum.inl (0, 0))), some (Sum.inl (nI (c_an n 10000 (c_q1 n v n)))), some (Sum.inl 0)], [], (c_aa n 10000 (c_q1 n v n), u, c))) rfl rfl ?_
    refine G_is (S' := (46, [some (Sum.inr (Sum.inl (0, 0))), some (Sum.inl (nI (c_an n 10000 (c_q1 n v n)))), some (Sum.inl (nI 0))], [], (c_q2 n (c_aa n 10000 (c_q1 n v n)) 0, u, c))) rfl ?_
    refine G_loop (S := fun k => (46, [some (Sum.inr (Sum.inl (0, 0))), some (Sum.inl (nI (c_an n 10000 (c_q1 n v n)))), some (Sum.inl (nI k))], [], (c_q2 n (c_aa n 10000 (c_q1 n v n)) k, u, c))) (N := n) (fun k hk K => ?_) ?_
    · have hi := hK.1 _ (q2_I hK hv2 k (by omega))
      refine G_steps 3 (S1 := (51, [some (Sum.inr (Sum.inl (0, 0))), some (Sum.inl (nI (c_an n 10000 (c_q1 n v n)))), some (Sum.inl (nI k))], [Sum.inl ((c_q2 n (c_aa n 10000 (c_q1 n v n)) k) 0 0 0), Sum.inl (nI k)], (c_q2 n (c_aa n 10000 (c_q1 n v n)) k, u, c))) rfl rfl ?_
      refine G_top hi.1.1.1 ?_
      refine G_steps 1 (S1 := (if nI n ≤ nI k then 95 else 54, [some (Sum.inr (Sum.inl (0, 0))), some (Sum.inl (nI (c_an n 10000 (c_q1 n v n)))), some (Sum.inl (nI k))], [], (c_q2 n (c_aa n 10000 (c_q1 n v n)) k, u, c))) rfl rfl ?_
      refine G_iF (fun z => absurd ((nI_le' (by omega) (by omega)).mp z) (by omega)) ?_
      refine G_steps 3 (S1 := (59, [some (Sum.inr (Sum.inl (0, 0))), some (Sum.inl (nI (c_an n 10000 (c_q1 n v n)))), some (Sum.inl (nI k))], [Sum.inl (nI k), Sum.inr (Sum.inl (1, 0))], (c_q2 n (c_aa n 10000 (c_q1 n v n)) k, u, c))) rfl rfl ?_
      refine G_step (S1 := (60, [some (Sum.inr (Sum.inl (0, 0))), some (Sum.inl (nI (c_an n 10000 (c_q1 n v n)))), some (Sum.inl (nI k))], [Sum.inr (Sum.inl (4, ix (nI k)))], (c_q2 n (c_aa n 10000 (c_q1 n v n)) k, u, c))) rfl (ald_n' (n := n) (a := k) hn (by omega) hc) ?_
      rw [ix_nI (j := k) (by omega)]
      refine G_steps 2 (S1 := (if (c_q2 n (c_aa n 10000 (c_q1 n v n)) k) 4 k 6 = 0 then 89 else 66, [some (Sum.inr (Sum.inl (0, 0))), some (Sum.inl (nI (c_an n 10000 (c_q1 n v n)))), some (Sum.inl (nI k))], [], (c_q2 n (c_aa n 10000 (c_q1 n v n)) k, u, c))) rfl rfl ?_
      refine G_if (fun h1 => ?_) (fun h1 => ?_)
      · skip
        refine G_steps 2 (S1 := (46, [some (Sum.inr (Sum.inl (0, 0))), some (Sum.inl (nI (c_an n 10000 (c_q1 n v n)))), some (Sum.inl ((nI k) + 1))], [], (c_q2 n (c_aa n 10000 (c_q1 n v n)) k, u, c))) rfl rfl ?_
        exact G_is (by simp only [c_q2, nI_succ, if_pos h1]) K
      · skip
        refine G_steps 3 (S1 := (71, [some (Sum.inr (Sum.inl (0, 0))), some (Sum.inl (nI (c_an n 10000 (c_q1 n v n)))), some (Sum.inl (nI k))], [Sum.inl (nI k), Sum.inr (Sum.inl (1, 0))], (c_q2 n (c_aa n 10000 (c_q1 n v n)) k, u, c))) rfl rfl ?_
        refine G_step (S1 := (72, [some (Sum.inr (Sum.inl (0, 0))), some (Sum.inl (nI (c_an n 10000 (c_q1 n v n)))), some (Sum.inl (nI k))], [Sum.inr (Sum.inl (4, ix (nI k)))], (c_q2 n (c_aa n 10000 (c_q1 n v n)) k, u, c))) rfl (ald_n' (n := n) (a := k) hn (by omega) hc) ?_
        rw [ix_nI (j := k) (by omega)]
        refine G_call (y := some (Sum.inl (c_wt (c_q2 n (c_aa n 10000 (c_q1 n v n)) k) k))) (M1 := (c_q2 n (c_aa n 10000 (c_q1 n v n)) k, u, c)) rfl rfl (e_waits _) ?_
        refine G_is (S' := (75, [some (Sum.inr (Sum.inl (0, 0))), some (Sum.inl (nI (c_an n 10000 (c_q1 n v n)))), some (Sum.inl (nI k))], [Sum.inl (c_wt (c_q2 n (c_aa n 10000 (c_q1 n v n)) k) k)], (c_q2 n (c_aa n 10000 (c_q1 n v n)) k, u, c))) rfl ?_
        refine G_steps 1 (S1 := (if c_wt (c_q2 n (c_aa n 10000 (c_q1 n v n)) k) k = 0 then 89 else 78, [some (Sum.inr (Sum.inl (0, 0))), some (Sum.inl (nI (c_an n 10000 (c_q1 n v n)))), some (Sum.inl (nI k))], [], (c_q2 n (c_aa n 10000 (c_q1 n v n)) k, u, c))) rfl rfl ?_
        refine G_if (fun h2 => ?_) (fun h2 => ?_)
        · skip
          refine G_steps 2 (S1 := (46, [some (Sum.inr (Sum.inl (0, 0))), some (Sum.inl (nI (c_an n 10000 (c_q1 n v n)))), some (Sum.inl ((nI k) + 1))], [], (c_q2 n (c_aa n 10000 (c_q1 n v n)) k, u, c))) rfl rfl ?_
          exact G_is (by simp only [c_q2, nI_succ, if_neg h1, if_pos h2]) K
        · skip
          refine G_steps 4 (S1 := (84, [some (Sum.inr (Sum.inl (0, 0))), some (Sum.inl (nI (c_an n 10000 (c_q1 n v n)))), some (Sum.inl (nI k))], [Sum.inl (nI k), Sum.inr (Sum.inl (1, 0)), Sum.inr (Sum.inl (0, 0))], (c_q2 n (c_aa n 10000 (c_q1 n v n)) k, u, c))) rfl rfl ?_
          refine G_step (S1 := (85, [some (Sum.inr (Sum.inl (0, 0))), some (Sum.inl (nI (c_an n 10000 (c_q1 n v n)))), some (Sum.inl (nI k))], [Sum.inr (Sum.inl (4, ix (nI k))), Sum.inr (Sum.inl (0, 0))], (c_q2 n (c_aa n 10000 (c_q1 n v n)) k, u, c))) rfl (ald_n' (n := n) (a := k) hn (by omega) hc) ?_
          rw [ix_nI (j := k) (by omega)]
          refine G_call (y := some (Sum.inl (nI (c_ask n k (n - 1) (ix ((c_q2 n (c_aa n 10000 (c_q1 n v n)) k) 4 k 9)) 0 (c_q2 n (c_aa n 10000 (c_q1 n v n)) k)).1))) (M1 := ((c_ask n k (n - 1) (ix ((c_q2 n (c_aa n 10000 (c_q1 n v n)) k) 4 k 9)) 0 (c_q2 n (c_aa n 10000 (c_q1 n v n)) k)).2, u, c)) rfl rfl (e_askForHelp _ hn hc hi.1 hk (wt_tg hn (hi.2.2.2 k hk) h2).2 (wt_tg hn (hi.2.2.2 k hk) h2).1) ?_
          refine G_is (S' := (88, [some (Sum.inr (Sum.inl (0, 0))), some (Sum.inl (nI (c_an n 10000 (c_q1 n v n)))), some (Sum.inl (nI k))], [Sum.inl (nI (c_ask n k (n - 1) (ix ((c_q2 n (c_aa n 10000 (c_q1 n v n)) k) 4 k 9)) 0 (c_q2 n (c_aa n 10000 (c_q1 n v n)) k)).1)], ((c_ask n k (n - 1) (ix ((c_q2 n (c_aa n 10000 (c_q1 n v n)) k) 4 k 9)) 0 (c_q2 n (c_aa n 10000 (c_q1 n v n)) k)).2, u, c))) rfl ?_
          refine G_steps 3 (S1 := (46, [some (Sum.inr (Sum.inl (0, 0))), some (Sum.inl (nI (c_an n 10000 (c_q1 n v n)))), some (Sum.inl ((nI k) + 1))], [], ((c_ask n k (n - 1) (ix ((c_q2 n (c_aa n 10000 (c_q1 n v n)) k) 4 k 9)) 0 (c_q2 n (c_aa n 10000 (c_q1 n v n)) k)).2, u, c))) rfl rfl ?_
          exact G_is (by simp only [c_q2, nI_succ, if_neg h1, if_neg h2]) K
    · skip
      refine G_steps 3 (S1 := (51, [some (Sum.inr (Sum.inl (0, 0))), some (Sum.inl (nI (c_an n 10000 (c_q1 n v n)))), some (Sum.inl (nI n))], [Sum.inl ((c_q2 n (c_aa n 10000 (c_q1 n v n)) n) 0 0 0), Sum.inl (nI n)], (c_q2 n (c_aa n 10000 (c_q1 n v n)) n, u, c))) rfl rfl ?_
      refine G_top ((hK.1 _ (q2_I hK hv2 n (Nat.le_refl _))).1.1.1) ?_
      refine G_steps 1 (S1 := (if nI n ≤ nI n then 95 else 54, [some (Sum.inr (Sum.inl (0, 0))), some (Sum.inl (nI (c_an n 10000 (c_q1 n v n)))), some (Sum.inl (nI n))], [], (c_q2 n (c_aa n 10000 (c_q1 n v n)) n, u, c))) rfl rfl ?_
      refine G_iT ((nI_le' (by omega) (by omega)).mpr (Nat.le_refl _)) ?_
      refine G_steps 2 (S1 := (97, [some (Sum.inr (Sum.inl (0, 0))), some (Sum.inl (nI (c_an n 10000 (c_q1 n v n)))), some (Sum.inl (nI n))], [Sum.inr (Sum.inl (0, 0)), Sum.inl (nI (c_an n 10000 (c_q1 n v n)))], (c_q2 n (c_aa n 10000 (c_q1 n v n)) n, u, c))) rfl rfl ?_
      refine G_call (y := some (Sum.inl (nI (c_an n 10000 (c_q2 n (c_aa n 10000 (c_q1 n v n)) n))))) (M1 := (c_aa n 10000 (c_q2 n (c_aa n 10000 (c_q1 n v n)) n), u, c)) rfl rfl (e_arriveAll _ hn hc hK.1 hK.2.1 (q2_I hK hv2 n (Nat.le_refl _))) ?_
      refine G_is (S' := (100, [some (Sum.inr (Sum.inl (0, 0))), some (Sum.inl (nI (c_an n 10000 (c_q1 n v n)))), some (Sum.inl (nI n))], [Sum.inl (nI (c_an n 10000 (c_q2 n (c_aa n 10000 (c_q1 n v n)) n))), Sum.inl (nI (c_an n 10000 (c_q1 n v n)))], (c_aa n 10000 (c_q2 n (c_aa n 10000 (c_q1 n v n)) n), u, c))) rfl ?_
      refine G_steps 1 (S1 := (101, [some (Sum.inr (Sum.inl (0, 0))), some (Sum.inl (nI (c_an n 10000 (c_q1 n v n)))), some (Sum.inl (nI n))], [Sum.inl ((nI (c_an n 10000 (c_q1 n v n))) + (nI (c_an n 10000 (c_q2 n (c_aa n 10000 (c_q1 n v n)) n))))], (c_aa n 10000 (c_q2 n (c_aa n 10000 (c_q1 n v n)) n), u, c))) rfl rfl ?_
      exact G_fin rfl rfl rfl
