/-! THE LAW'S LOOP -/
theorem ib_L {j L : Nat} (h : j < L) (hl : L ≤ 1537) : i_b (nI j) L = true := by
  unfold i_b
  rw [ix_nI (by omega)]
  simp only [Bool.and_eq_true, decide_eq_true_eq]
  exact ⟨nI_pos' (by omega), h⟩
theorem gt_L {i L : Nat} (hi : i ≤ 2000) (hl : L ≤ 1537) : nI L - 3 < nI i ↔ L < i + 3 := by
  have h3 : (nI L - 3).toInt = (L : Int) - 3 := by
    rw [Int32.toInt_sub, nI_toInt (by omega), show (3 : Int32).toInt = 3 from rfl]
    exact Int.bmod_eq_of_le (by omega) (by omega)
  rw [Int32.lt_iff_toInt_lt, h3, nI_toInt (by omega)]
  omega
theorem nI_a2 (i : Nat) : nI i + 2 = nI (i + 2) := nI_ad i 2
theorem nI_a3 (i : Nat) : nI i + 3 = nI (i + 3) := nI_ad i 3
set_option maxRecDepth 100000 in
theorem lc_period {n L : Nat} {xs : Nat → Int32} {v u : mV} {c i : Nat} {Z : aS → Prop} (hc : c = (K_T n).length) (h : R_R n v u) (hi : i + 2 < L) (hL : L ≤ 1537) (K : ∀ v1 u1, R_R n v1 u1 → G_o false n L xs (E_v false n L xs 7) (l_k cd_83) Z (28, [some (Sum.inr (Sum.inl (50, 0))), some (Sum.inr (Sum.inl (0, 0))), some (Sum.inr (Sum.inl (20, 0))), some (Sum.inl (nI (i + 3)))], [], (v1, u1, c))) : G_o false n L xs (E_v false n L xs 7) (l_k cd_83) Z (124, [some (Sum.inr (Sum.inl (50, 0))), some (Sum.inr (Sum.inl (0, 0))), some (Sum.inr (Sum.inl (20, 0))), some (Sum.inl (nI i))], [], (v, u, c)) := by
  obtain ⟨y, v1, u1, hE1, hE2, hR⟩ := pp_period (L := L) (xs := xs) (x := xs (i + 1)) h hc
  refine G_steps 5 (S1 := (129, [some (Sum.inr (Sum.inl (50, 0))), some (Sum.inr (Sum.inl (0, 0))), some (Sum.inr (Sum.inl (20, 0))), some (Sum.inl (nI i))], [Sum.inl ((nI i) + 1), Sum.inr (Sum.inl (50, 0)), Sum.inr (Sum.inl (0, 0))], (v, u, c))) rfl rfl ?_
  refine G_top ((nI_succ i).symm) ?_
  refine G_step (S1 := (130, [some (Sum.inr (Sum.inl (50, 0))), some (Sum.inr (Sum.inl (0, 0))), some (Sum.inr (Sum.inl (20, 0))), some (Sum.inl (nI i))], [Sum.inl (xs (ix (nI (i + 1)))), Sum.inr (Sum.inl (0, 0))], (v, u, c))) rfl (ib_L (by omega) hL) ?_
  rw [ix_nI (j := (i + 1)) (by omega)]
  refine G_call (y := some (Sum.inl y)) (M1 := (v1, u, c)) rfl rfl hE1 ?_
  refine G_is (S' := (133, [some (Sum.inr (Sum.inl (50, 0))), some (Sum.inr (Sum.inl (0, 0))), some (Sum.inr (Sum.inl (20, 0))), some (Sum.inl (nI i))], [Sum.inl y], (v1, u, c))) rfl ?_
  refine G_steps 5 (S1 := (138, [some (Sum.inr (Sum.inl (50, 0))), some (Sum.inr (Sum.inl (0, 0))), some (Sum.inr (Sum.inl (20, 0))), some (Sum.inl (nI i))], [Sum.inl ((nI i) + 1), Sum.inr (Sum.inl (50, 0)), Sum.inr (Sum.inl (20, 0)), Sum.inl y], (v1, u, c))) rfl rfl ?_
  refine G_top ((nI_succ i).symm) ?_
  refine G_step (S1 := (139, [some (Sum.inr (Sum.inl (50, 0))), some (Sum.inr (Sum.inl (0, 0))), some (Sum.inr (Sum.inl (20, 0))), some (Sum.inl (nI i))], [Sum.inl (xs (ix (nI (i + 1)))), Sum.inr (Sum.inl (20, 0)), Sum.inl y], (v1, u, c))) rfl (ib_L (by omega) hL) ?_
  rw [ix_nI (j := (i + 1)) (by omega)]
  refine G_call (y := some (Sum.inl y)) (M1 := (v1, u1, c)) rfl rfl hE2 ?_
  refine G_is (S' := (142, [some (Sum.inr (Sum.inl (50, 0))), some (Sum.inr (Sum.inl (0, 0))), some (Sum.inr (Sum.inl (20, 0))), some (Sum.inl (nI i))], [Sum.inl y, Sum.inl y], (v1, u1, c))) rfl ?_
  refine G_steps 1 (S1 := (if y = y then 536 else 145, [some (Sum.inr (Sum.inl (50, 0))), some (Sum.inr (Sum.inl (0, 0))), some (Sum.inr (Sum.inl (20, 0))), some (Sum.inl (nI i))], [], (v1, u1, c))) rfl rfl ?_
  refine G_iT rfl ?_
  refine G_steps 2 (S1 := (28, [some (Sum.inr (Sum.inl (50, 0))), some (Sum.inr (Sum.inl (0, 0))), some (Sum.inr (Sum.inl (20, 0))), some (Sum.inl ((nI i) + 3))], [], (v1, u1, c))) rfl rfl ?_
  exact G_is (by rw [nI_a3]) (K v1 u1 hR)
set_option maxRecDepth 100000 in
theorem lc_help {n L : Nat} {xs : Nat → Int32} {v u : mV} {c i : Nat} {Z : aS → Prop} (hc : c = (K_T n).length) (h : R_R n v u) (hi : i + 2 < L) (hL : L ≤ 1537) (K : ∀ v1 u1, R_R n v1 u1 → G_o false n L xs (E_v false n L xs 7) (l_k cd_83) Z (28, [some (Sum.inr (Sum.inl (50, 0))), some (Sum.inr (Sum.inl (0, 0))), some (Sum.inr (Sum.inl (20, 0))), some (Sum.inl (nI (i + 3)))], [], (v1, u1, c))) : G_o false n L xs (E_v false n L xs 7) (l_k cd_83) Z (147, [some (Sum.inr (Sum.inl (50, 0))), some (Sum.inr (Sum.inl (0, 0))), some (Sum.inr (Sum.inl (20, 0))), some (Sum.inl (nI i))], [], (v, u, c)) := by
  obtain ⟨y, v1, u1, hE1, hE2, hR⟩ := pp_help (L := L) (xs := xs) (x := xs (i + 1)) h hc
  refine G_steps 5 (S1 := (152, [some (Sum.inr (Sum.inl (50, 0))), some (Sum.inr (Sum.inl (0, 0))), some (Sum.inr (Sum.inl (20, 0))), some (Sum.inl (nI i))], [Sum.inl ((nI i) + 1), Sum.inr (Sum.inl (50, 0)), Sum.inr (Sum.inl (0, 0))], (v, u, c))) rfl rfl ?_
  refine G_top ((nI_succ i).symm) ?_
  refine G_step (S1 := (153, [some (Sum.inr (Sum.inl (50, 0))), some (Sum.inr (Sum.inl (0, 0))), some (Sum.inr (Sum.inl (20, 0))), some (Sum.inl (nI i))], [Sum.inl (xs (ix (nI (i + 1)))), Sum.inr (Sum.inl (0, 0))], (v, u, c))) rfl (ib_L (by omega) hL) ?_
  rw [ix_nI (j := (i + 1)) (by omega)]
  refine G_call (y := some (Sum.inl y)) (M1 := (v1, u, c)) rfl rfl hE1 ?_
  refine G_is (S' := (156, [some (Sum.inr (Sum.inl (50, 0))), some (Sum.inr (Sum.inl (0, 0))), some (Sum.inr (Sum.inl (20, 0))), some (Sum.inl (nI i))], [Sum.inl y], (v1, u, c))) rfl ?_
  refine G_steps 5 (S1 := (161, [some (Sum.inr (Sum.inl (50, 0))), some (Sum.inr (Sum.inl (0, 0))), some (Sum.inr (Sum.inl (20, 0))), some (Sum.inl (nI i))], [Sum.inl ((nI i) + 1), Sum.inr (Sum.inl (50, 0)), Sum.inr (Sum.inl (20, 0)), Sum.inl y], (v1, u, c))) rfl rfl ?_
  refine G_top ((nI_succ i).symm) ?_
  refine G_step (S1 := (162, [some (Sum.inr (Sum.inl (50, 0))), some (Sum.inr (Sum.inl (0, 0))), some (Sum.inr (Sum.inl (20, 0))), some (Sum.inl (nI i))], [Sum.inl (xs (ix (nI (i + 1)))), Sum.inr (Sum.inl (20, 0)), Sum.inl y], (v1, u, c))) rfl (ib_L (by omega) hL) ?_
  rw [ix_nI (j := (i + 1)) (by omega)]
  refine G_call (y := some (Sum.inl y)) (M1 := (v1, u1, c)) rfl rfl hE2 ?_
  refine G_is (S' := (165, [some (Sum.inr (Sum.inl (50, 0))), some (Sum.inr (Sum.inl (0, 0))), some (Sum.inr (Sum.inl (20, 0))), some (Sum.inl (nI i))], [Sum.inl y, Sum.inl y], (v1, u1, c))) rfl ?_
  refine G_steps 1 (S1 := (if y = y then 536 else 168, [some (Sum.inr (Sum.inl (50, 0))), some (Sum.inr (Sum.inl (0, 0))), some (Sum.inr (Sum.inl (20, 0))), some (Sum.inl (nI i))], [], (v1, u1, c))) rfl rfl ?_
  refine G_iT rfl ?_
  refine G_steps 2 (S1 := (28, [some (Sum.inr (Sum.inl (50, 0))), some (Sum.inr (Sum.inl (0, 0))), some (Sum.inr (Sum.inl (20, 0))), some (Sum.inl ((nI i) + 3))], [], (v1, u1, c))) rfl rfl ?_
  exact G_is (by rw [nI_a3]) (K v1 u1 hR)
set_option maxRecDepth 100000 in
theorem lc_deliver {n L : Nat} {xs : Nat → Int32} {v u : mV} {c i : Nat} {Z : aS → Prop} (hc : c = (K_T n).length) (h : R_R n v u) (hi : i + 2 < L) (hL : L ≤ 1537) (K : ∀ v1 u1, R_R n v1 u1 → G_o false n L xs (E_v false n L xs 7) (l_k cd_83) Z (28, [some (Sum.inr (Sum.inl (50, 0))), some (Sum.inr (Sum.inl (0, 0))), some (Sum.inr (Sum.inl (20, 0))), some (Sum.inl (nI (i + 3)))], [], (v1, u1, c))) : G_o false n L xs (E_v false n L xs 7) (l_k cd_83) Z (170, [some (Sum.inr (Sum.inl (50, 0))), some (Sum.inr (Sum.inl (0, 0))), some (Sum.inr (Sum.inl (20, 0))), some (Sum.inl (nI i))], [], (v, u, c)) := by
  obtain ⟨y, v1, u1, hE1, hE2, hR⟩ := pp_deliver (L := L) (xs := xs) (x := xs (i + 1)) h hc
  refine G_steps 5 (S1 := (175, [some (Sum.inr (Sum.inl (50, 0))), some (Sum.inr (Sum.inl (0, 0))), some (Sum.inr (Sum.inl (20, 0))), some (Sum.inl (nI i))], [Sum.inl ((nI i) + 1), Sum.inr (Sum.inl (50, 0)), Sum.inr (Sum.inl (0, 0))], (v, u, c))) rfl rfl ?_
  refine G_top ((nI_succ i).symm) ?_
  refine G_step (S1 := (176, [some (Sum.inr (Sum.inl (50, 0))), some (Sum.inr (Sum.inl (0, 0))), some (Sum.inr (Sum.inl (20, 0))), some (Sum.inl (nI i))], [Sum.inl (xs (ix (nI (i + 1)))), Sum.inr (Sum.inl (0, 0))], (v, u, c))) rfl (ib_L (by omega) hL) ?_
  rw [ix_nI (j := (i + 1)) (by omega)]
  refine G_call (y := some (Sum.inl y)) (M1 := (v1, u, c)) rfl rfl hE1 ?_
  refine G_is (S' := (179, [some (Sum.inr (Sum.inl (50, 0))), some (Sum.inr (Sum.inl (0, 0))), some (Sum.inr (Sum.inl (20, 0))), some (Sum.inl (nI i))], [Sum.inl y], (v1, u, c))) rfl ?_
  refine G_steps 5 (S1 := (184, [some (Sum.inr (Sum.inl (50, 0))), some (Sum.inr (Sum.inl (0, 0))), some (Sum.inr (Sum.inl (20, 0))), some (Sum.inl (nI i))], [Sum.inl ((nI i) + 1), Sum.inr (Sum.inl (50, 0)), Sum.inr (Sum.inl (20, 0)), Sum.inl y], (v1, u, c))) rfl rfl ?_
  refine G_top ((nI_succ i).symm) ?_
  refine G_step (S1 := (185, [some (Sum.inr (Sum.inl (50, 0))), some (Sum.inr (Sum.inl (0, 0))), some (Sum.inr (Sum.inl (20, 0))), some (Sum.inl (nI i))], [Sum.inl (xs (ix (nI (i + 1)))), Sum.inr (Sum.inl (20, 0)), Sum.inl y], (v1, u, c))) rfl (ib_L (by omega) hL) ?_
  rw [ix_nI (j := (i + 1)) (by omega)]
  refine G_call (y := some (Sum.inl y)) (M1 := (v1, u1, c)) rfl rfl hE2 ?_
  refine G_is (S' := (188, [some (Sum.inr (Sum.inl (50, 0))), some (Sum.inr (Sum.inl (0, 0))), some (Sum.inr (Sum.inl (20, 0))), some (Sum.inl (nI i))], [Sum.inl y, Sum.inl y], (v1, u1, c))) rfl ?_
  refine G_steps 1 (S1 := (if y = y then 536 else 191, [some (Sum.inr (Sum.inl (50, 0))), some (Sum.inr (Sum.inl (0, 0))), some (Sum.inr (Sum.inl (20, 0))), some (Sum.inl (nI i))], [], (v1, u1, c))) rfl rfl ?_
  refine G_iT rfl ?_
  refine G_steps 2 (S1 := (28, [some (Sum.inr (Sum.inl (50, 0))), some (Sum.inr (Sum.inl (0, 0))), some (Sum.inr (Sum.inl (20, 0))), some (Sum.inl ((nI i) + 3))], [], (v1, u1, c))) rfl rfl ?_
  exact G_is (by rw [nI_a3]) (K v1 u1 hR)
set_option maxRecDepth 100000 in
theorem lc_lose {n L : Nat} {xs : Nat → Int32} {v u : mV} {c i : Nat} {Z : aS → Prop} (hc : c = (K_T n).length) (h : R_R n v u) (hi : i + 2 < L) (hL : L ≤ 1537) (K : ∀ v1 u1, R_R n v1 u1 → G_o false n L xs (E_v false n L xs 7) (l_k cd_83) Z (28, [some (Sum.inr (Sum.inl (50, 0))), some (Sum.inr (Sum.inl (0, 0))), some (Sum.inr (Sum.inl (20, 0))), some (Sum.inl (nI (i + 3)))], [], (v1, u1, c))) : G_o false n L xs (E_v false n L xs 7) (l_k cd_83) Z (193, [some (Sum.inr (Sum.inl (50, 0))), some (Sum.inr (Sum.inl (0, 0))), some (Sum.inr (Sum.inl (20, 0))), some (Sum.inl (nI i))], [], (v, u, c)) := by
  obtain ⟨y, v1, u1, hE1, hE2, hR⟩ := pp_lose (L := L) (xs := xs) (x := xs (i + 1)) h hc
  refine G_steps 5 (S1 := (198, [some (Sum.inr (Sum.inl (50, 0))), some (Sum.inr (Sum.inl (0, 0))), some (Sum.inr (Sum.inl (20, 0))), some (Sum.inl (nI i))], [Sum.inl ((nI i) + 1), Sum.inr (Sum.inl (50, 0)), Sum.inr (Sum.inl (0, 0))], (v, u, c))) rfl rfl ?_
  refine G_top ((nI_succ i).symm) ?_
  refine G_step (S1 := (199, [some (Sum.inr (Sum.inl (50, 0))), some (Sum.inr (Sum.inl (0, 0))), some (Sum.inr (Sum.inl (20, 0))), some (Sum.inl (nI i))], [Sum.inl (xs (ix (nI (i + 1)))), Sum.inr (Sum.inl (0, 0))], (v, u, c))) rfl (ib_L (by omega) hL) ?_
  rw [ix_nI (j := (i + 1)) (by omega)]
  refine G_call (y := some (Sum.inl y)) (M1 := (v1, u, c)) rfl rfl hE1 ?_
  refine G_is (S' := (202, [some (Sum.inr (Sum.inl (50, 0))), some (Sum.inr (Sum.inl (0, 0))), some (Sum.inr (Sum.inl (20, 0))), some (Sum.inl (nI i))], [Sum.inl y], (v1, u, c))) rfl ?_
  refine G_steps 5 (S1 := (207, [some (Sum.inr (Sum.inl (50, 0))), some (Sum.inr (Sum.inl (0, 0))), some (Sum.inr (Sum.inl (20, 0))), some (Sum.inl (nI i))], [Sum.inl ((nI i) + 1), Sum.inr (Sum.inl (50, 0)), Sum.inr (Sum.inl (20, 0)), Sum.inl y], (v1, u, c))) rfl rfl ?_
  refine G_top ((nI_succ i).symm) ?_
  refine G_step (S1 := (208, [some (Sum.inr (Sum.inl (50, 0))), some (Sum.inr (Sum.inl (0, 0))), some (Sum.inr (Sum.inl (20, 0))), some (Sum.inl (nI i))], [Sum.inl (xs (ix (nI (i + 1)))), Sum.inr (Sum.inl (20, 0)), Sum.inl y], (v1, u, c))) rfl (ib_L (by omega) hL) ?_
  rw [ix_nI (j := (i + 1)) (by omega)]
  refine G_call (y := some (Sum.inl y)) (M1 := (v1, u1, c)) rfl rfl hE2 ?_
  refine G_is (S' := (211, [some (Sum.inr (Sum.inl (50, 0))), some (Sum.inr (Sum.inl (0, 0))), some (Sum.inr (Sum.inl (20, 0))), some (Sum.inl (nI i))], [Sum.inl y, Sum.inl y], (v1, u1, c))) rfl ?_
  refine G_steps 1 (S1 := (if y = y then 536 else 214, [some (Sum.inr (Sum.inl (50, 0))), some (Sum.inr (Sum.inl (0, 0))), some (Sum.inr (Sum.inl (20, 0))), some (Sum.inl (nI i))], [], (v1, u1, c))) rfl rfl ?_
  refine G_iT rfl ?_
  refine G_steps 2 (S1 := (28, [some (Sum.inr (Sum.inl (50, 0))), some (Sum.inr (Sum.inl (0, 0))), some (Sum.inr (Sum.inl (20, 0))), some (Sum.inl ((nI i) + 3))], [], (v1, u1, c))) rfl rfl ?_
  exact G_is (by rw [nI_a3]) (K v1 u1 hR)
set_option maxRecDepth 100000 in
theorem lc_round {n L : Nat} {xs : Nat → Int32} {v u : mV} {c i : Nat} {Z : aS → Prop} (hc : c = (K_T n).length) (h : R_R n v u) (hi : i + 2 < L) (hL : L ≤ 1537) (K : ∀ v1 u1, R_R n v1 u1 → G_o false n L xs (E_v false n L xs 7) (l_k cd_83) Z (28, [some (Sum.inr (Sum.inl (50, 0))), some (Sum.inr (Sum.inl (0, 0))), some (Sum.inr (Sum.inl (20, 0))), some (Sum.inl (nI (i + 3)))], [], (v1, u1, c))) : G_o false n L xs (E_v false n L xs 7) (l_k cd_83) Z (216, [some (Sum.inr (Sum.inl (50, 0))), some (Sum.inr (Sum.inl (0, 0))), some (Sum.inr (Sum.inl (20, 0))), some (Sum.inl (nI i))], [], (v, u, c)) := by
  obtain ⟨y, v1, u1, hE1, hE2, hR⟩ := pp_round (L := L) (xs := xs) h hc
  refine G_steps 1 (S1 := (217, [some (Sum.inr (Sum.inl (50, 0))), some (Sum.inr (Sum.inl (0, 0))), some (Sum.inr (Sum.inl (20, 0))), some (Sum.inl (nI i))], [Sum.inr (Sum.inl (0, 0))], (v, u, c))) rfl rfl ?_
  refine G_call (y := some (Sum.inl y)) (M1 := (v1, u, c)) rfl rfl hE1 ?_
  refine G_is (S' := (220, [some (Sum.inr (Sum.inl (50, 0))), some (Sum.inr (Sum.inl (0, 0))), some (Sum.inr (Sum.inl (20, 0))), some (Sum.inl (nI i))], [Sum.inl y], (v1, u, c))) rfl ?_
  refine G_steps 1 (S1 := (221, [some (Sum.inr (Sum.inl (50, 0))), some (Sum.inr (Sum.inl (0, 0))), some (Sum.inr (Sum.inl (20, 0))), some (Sum.inl (nI i))], [Sum.inr (Sum.inl (20, 0)), Sum.inl y], (v1, u, c))) rfl rfl ?_
  refine G_call (y := some (Sum.inl y)) (M1 := (v1, u1, c)) rfl rfl hE2 ?_
  refine G_is (S' := (224, [some (Sum.inr (Sum.inl (50, 0))), some (Sum.inr (Sum.inl (0, 0))), some (Sum.inr (Sum.inl (20, 0))), some (Sum.inl (nI i))], [Sum.inl y, Sum.inl y], (v1, u1, c))) rfl ?_
  refine G_steps 1 (S1 := (if y = y then 536 else 227, [some (Sum.inr (Sum.inl (50, 0))), some (Sum.inr (Sum.inl (0, 0))), some (Sum.inr (Sum.inl (20, 0))), some (Sum.inl (nI i))], [], (v1, u1, c))) rfl rfl ?_
  refine G_iT rfl ?_
  refine G_steps 2 (S1 := (28, [some (Sum.inr (Sum.inl (50, 0))), some (Sum.inr (Sum.inl (0, 0))), some (Sum.inr (Sum.inl (20, 0))), some (Sum.inl ((nI i) + 3))], [], (v1, u1, c))) rfl rfl ?_
  exact G_is (by rw [nI_a3]) (K v1 u1 hR)
set_option maxRecDepth 100000 in
theorem lc_stop {n L : Nat} {xs : Nat → Int32} {v u : mV} {c i : Nat} {Z : aS → Prop} (hc : c = (K_T n).length) (h : R_R n v u) (hi : i + 2 < L) (hL : L ≤ 1537) (K : ∀ v1 u1, R_R n v1 u1 → G_o false n L xs (E_v false n L xs 7) (l_k cd_83) Z (28, [some (Sum.inr (Sum.inl (50, 0))), some (Sum.inr (Sum.inl (0, 0))), some (Sum.inr (Sum.inl (20, 0))), some (Sum.inl (nI (i + 3)))], [], (v1, u1, c))) : G_o false n L xs (E_v false n L xs 7) (l_k cd_83) Z (229, [some (Sum.inr (Sum.inl (50, 0))), some (Sum.inr (Sum.inl (0, 0))), some (Sum.inr (Sum.inl (20, 0))), some (Sum.inl (nI i))], [], (v, u, c)) := by
  obtain ⟨y, v1, u1, hE1, hE2, hR⟩ := pp_stop (L := L) (xs := xs) (x := xs (i + 1)) h hc
  refine G_steps 5 (S1 := (234, [some (Sum.inr (Sum.inl (50, 0))), some (Sum.inr (Sum.inl (0, 0))), some (Sum.inr (Sum.inl (20, 0))), some (Sum.inl (nI i))], [Sum.inl ((nI i) + 1), Sum.inr (Sum.inl (50, 0)), Sum.inr (Sum.inl (0, 0))], (v, u, c))) rfl rfl ?_
  refine G_top ((nI_succ i).symm) ?_
  refine G_step (S1 := (235, [some (Sum.inr (Sum.inl (50, 0))), some (Sum.inr (Sum.inl (0, 0))), some (Sum.inr (Sum.inl (20, 0))), some (Sum.inl (nI i))], [Sum.inl (xs (ix (nI (i + 1)))), Sum.inr (Sum.inl (0, 0))], (v, u, c))) rfl (ib_L (by omega) hL) ?_
  rw [ix_nI (j := (i + 1)) (by omega)]
  refine G_call (y := some (Sum.inl y)) (M1 := (v1, u, c)) rfl rfl hE1 ?_
  refine G_is (S' := (238, [some (Sum.inr (Sum.inl (50, 0))), some (Sum.inr (Sum.inl (0, 0))), some (Sum.inr (Sum.inl (20, 0))), some (Sum.inl (nI i))], [Sum.inl y], (v1, u, c))) rfl ?_
  refine G_steps 5 (S1 := (243, [some (Sum.inr (Sum.inl (50, 0))), some (Sum.inr (Sum.inl (0, 0))), some (Sum.inr (Sum.inl (20, 0))), some (Sum.inl (nI i))], [Sum.inl ((nI i) + 1), Sum.inr (Sum.inl (50, 0)), Sum.inr (Sum.inl (20, 0)), Sum.inl y], (v1, u, c))) rfl rfl ?_
  refine G_top ((nI_succ i).symm) ?_
  refine G_step (S1 := (244, [some (Sum.inr (Sum.inl (50, 0))), some (Sum.inr (Sum.inl (0, 0))), some (Sum.inr (Sum.inl (20, 0))), some (Sum.inl (nI i))], [Sum.inl (xs (ix (nI (i + 1)))), Sum.inr (Sum.inl (20, 0)), Sum.inl y], (v1, u, c))) rfl (ib_L (by omega) hL) ?_
  rw [ix_nI (j := (i + 1)) (by omega)]
  refine G_call (y := some (Sum.inl y)) (M1 := (v1, u1, c)) rfl rfl hE2 ?_
  refine G_is (S' := (247, [some (Sum.inr (Sum.inl (50, 0))), some (Sum.inr (Sum.inl (0, 0))), some (Sum.inr (Sum.inl (20, 0))), some (Sum.inl (nI i))], [Sum.inl y, Sum.inl y], (v1, u1, c))) rfl ?_
  refine G_steps 1 (S1 := (if y = y then 536 else 250, [some (Sum.inr (Sum.inl (50, 0))), some (Sum.inr (Sum.inl (0, 0))), some (Sum.inr (Sum.inl (20, 0))), some (Sum.inl (nI i))], [], (v1, u1, c))) rfl rfl ?_
  refine G_iT rfl ?_
  refine G_steps 2 (S1 := (28, [some (Sum.inr (Sum.inl (50, 0))), some (Sum.inr (Sum.inl (0, 0))), some (Sum.inr (Sum.inl (20, 0))), some (Sum.inl ((nI i) + 3))], [], (v1, u1, c))) rfl rfl ?_
  exact G_is (by rw [nI_a3]) (K v1 u1 hR)
set_option maxRecDepth 100000 in
theorem lc_isUp {n L : Nat} {xs : Nat → Int32} {v u : mV} {c i : Nat} {Z : aS → Prop} (hc : c = (K_T n).length) (h : R_R n v u) (hi : i + 2 < L) (hL : L ≤ 1537) (K : ∀ v1 u1, R_R n v1 u1 → G_o false n L xs (E_v false n L xs 7) (l_k cd_83) Z (28, [some (Sum.inr (Sum.inl (50, 0))), some (Sum.inr (Sum.inl (0, 0))), some (Sum.inr (Sum.inl (20, 0))), some (Sum.inl (nI (i + 3)))], [], (v1, u1, c))) : G_o false n L xs (E_v false n L xs 7) (l_k cd_83) Z (252, [some (Sum.inr (Sum.inl (50, 0))), some (Sum.inr (Sum.inl (0, 0))), some (Sum.inr (Sum.inl (20, 0))), some (Sum.inl (nI i))], [], (v, u, c)) := by
  obtain ⟨y, v1, u1, hE1, hE2, hR⟩ := pp_isUp (L := L) (xs := xs) (x := xs (i + 1)) h hc
  refine G_steps 5 (S1 := (257, [some (Sum.inr (Sum.inl (50, 0))), some (Sum.inr (Sum.inl (0, 0))), some (Sum.inr (Sum.inl (20, 0))), some (Sum.inl (nI i))], [Sum.inl ((nI i) + 1), Sum.inr (Sum.inl (50, 0)), Sum.inr (Sum.inl (0, 0))], (v, u, c))) rfl rfl ?_
  refine G_top ((nI_succ i).symm) ?_
  refine G_step (S1 := (258, [some (Sum.inr (Sum.inl (50, 0))), some (Sum.inr (Sum.inl (0, 0))), some (Sum.inr (Sum.inl (20, 0))), some (Sum.inl (nI i))], [Sum.inl (xs (ix (nI (i + 1)))), Sum.inr (Sum.inl (0, 0))], (v, u, c))) rfl (ib_L (by omega) hL) ?_
  rw [ix_nI (j := (i + 1)) (by omega)]
  refine G_call (y := some (Sum.inl y)) (M1 := (v1, u, c)) rfl rfl hE1 ?_
  refine G_is (S' := (261, [some (Sum.inr (Sum.inl (50, 0))), some (Sum.inr (Sum.inl (0, 0))), some (Sum.inr (Sum.inl (20, 0))), some (Sum.inl (nI i))], [Sum.inl y], (v1, u, c))) rfl ?_
  refine G_steps 5 (S1 := (266, [some (Sum.inr (Sum.inl (50, 0))), some (Sum.inr (Sum.inl (0, 0))), some (Sum.inr (Sum.inl (20, 0))), some (Sum.inl (nI i))], [Sum.inl ((nI i) + 1), Sum.inr (Sum.inl (50, 0)), Sum.inr (Sum.inl (20, 0)), Sum.inl y], (v1, u, c))) rfl rfl ?_
  refine G_top ((nI_succ i).symm) ?_
  refine G_step (S1 := (267, [some (Sum.inr (Sum.inl (50, 0))), some (Sum.inr (Sum.inl (0, 0))), some (Sum.inr (Sum.inl (20, 0))), some (Sum.inl (nI i))], [Sum.inl (xs (ix (nI (i + 1)))), Sum.inr (Sum.inl (20, 0)), Sum.inl y], (v1, u, c))) rfl (ib_L (by omega) hL) ?_
  rw [ix_nI (j := (i + 1)) (by omega)]
  refine G_call (y := some (Sum.inl y)) (M1 := (v1, u1, c)) rfl rfl hE2 ?_
  refine G_is (S' := (270, [some (Sum.inr (Sum.inl (50, 0))), some (Sum.inr (Sum.inl (0, 0))), some (Sum.inr (Sum.inl (20, 0))), some (Sum.inl (nI i))], [Sum.inl y, Sum.inl y], (v1, u1, c))) rfl ?_
  refine G_steps 1 (S1 := (if y = y then 536 else 273, [some (Sum.inr (Sum.inl (50, 0))), some (Sum.inr (Sum.inl (0, 0))), some (Sum.inr (Sum.inl (20, 0))), some (Sum.inl (nI i))], [], (v1, u1, c))) rfl rfl ?_
  refine G_iT rfl ?_
  refine G_steps 2 (S1 := (28, [some (Sum.inr (Sum.inl (50, 0))), some (Sum.inr (Sum.inl (0, 0))), some (Sum.inr (Sum.inl (20, 0))), some (Sum.inl ((nI i) + 3))], [], (v1, u1, c))) rfl rfl ?_
  exact G_is (by rw [nI_a3]) (K v1 u1 hR)
set_option maxRecDepth 100000 in
theorem lc_status {n L : Nat} {xs : Nat → Int32} {v u : mV} {c i : Nat} {Z : aS → Prop} (hc : c = (K_T n).length) (h : R_R n v u) (hi : i + 2 < L) (hL : L ≤ 1537) (K : ∀ v1 u1, R_R n v1 u1 → G_o false n L xs (E_v false n L xs 7) (l_k cd_83) Z (28, [some (Sum.inr (Sum.inl (50, 0))), some (Sum.inr (Sum.inl (0, 0))), some (Sum.inr (Sum.inl (20, 0))), some (Sum.inl (nI (i + 3)))], [], (v1, u1, c))) : G_o false n L xs (E_v false n L xs 7) (l_k cd_83) Z (275, [some (Sum.inr (Sum.inl (50, 0))), some (Sum.inr (Sum.inl (0, 0))), some (Sum.inr (Sum.inl (20, 0))), some (Sum.inl (nI i))], [], (v, u, c)) := by
  obtain ⟨y, v1, u1, hE1, hE2, hR⟩ := pp_status (L := L) (xs := xs) (x := xs (i + 1)) (z := xs (i + 2)) h hc
  refine G_steps 5 (S1 := (280, [some (Sum.inr (Sum.inl (50, 0))), some (Sum.inr (Sum.inl (0, 0))), some (Sum.inr (Sum.inl (20, 0))), some (Sum.inl (nI i))], [Sum.inl ((nI i) + 1), Sum.inr (Sum.inl (50, 0)), Sum.inr (Sum.inl (0, 0))], (v, u, c))) rfl rfl ?_
  refine G_top ((nI_succ i).symm) ?_
  refine G_step (S1 := (281, [some (Sum.inr (Sum.inl (50, 0))), some (Sum.inr (Sum.inl (0, 0))), some (Sum.inr (Sum.inl (20, 0))), some (Sum.inl (nI i))], [Sum.inl (xs (ix (nI (i + 1)))), Sum.inr (Sum.inl (0, 0))], (v, u, c))) rfl (ib_L (by omega) hL) ?_
  rw [ix_nI (j := (i + 1)) (by omega)]
  refine G_steps 4 (S1 := (285, [some (Sum.inr (Sum.inl (50, 0))), some (Sum.inr (Sum.inl (0, 0))), some (Sum.inr (Sum.inl (20, 0))), some (Sum.inl (nI i))], [Sum.inl ((nI i) + 2), Sum.inr (Sum.inl (50, 0)), Sum.inl (xs (i + 1)), Sum.inr (Sum.inl (0, 0))], (v, u, c))) rfl rfl ?_
  refine G_top (nI_a2 i) ?_
  refine G_step (S1 := (286, [some (Sum.inr (Sum.inl (50, 0))), some (Sum.inr (Sum.inl (0, 0))), some (Sum.inr (Sum.inl (20, 0))), some (Sum.inl (nI i))], [Sum.inl (xs (ix (nI (i + 2)))), Sum.inl (xs (i + 1)), Sum.inr (Sum.inl (0, 0))], (v, u, c))) rfl (ib_L (by omega) hL) ?_
  rw [ix_nI (j := (i + 2)) (by omega)]
  refine G_call (y := some (Sum.inl y)) (M1 := (v1, u, c)) rfl rfl hE1 ?_
  refine G_is (S' := (289, [some (Sum.inr (Sum.inl (50, 0))), some (Sum.inr (Sum.inl (0, 0))), some (Sum.inr (Sum.inl (20, 0))), some (Sum.inl (nI i))], [Sum.inl y], (v1, u, c))) rfl ?_
  refine G_steps 5 (S1 := (294, [some (Sum.inr (Sum.inl (50, 0))), some (Sum.inr (Sum.inl (0, 0))), some (Sum.inr (Sum.inl (20, 0))), some (Sum.inl (nI i))], [Sum.inl ((nI i) + 1), Sum.inr (Sum.inl (50, 0)), Sum.inr (Sum.inl (20, 0)), Sum.inl y], (v1, u, c))) rfl rfl ?_
  refine G_top ((nI_succ i).symm) ?_
  refine G_step (S1 := (295, [some (Sum.inr (Sum.inl (50, 0))), some (Sum.inr (Sum.inl (0, 0))), some (Sum.inr (Sum.inl (20, 0))), some (Sum.inl (nI i))], [Sum.inl (xs (ix (nI (i + 1)))), Sum.inr (Sum.inl (20, 0)), Sum.inl y], (v1, u, c))) rfl (ib_L (by omega) hL) ?_
  rw [ix_nI (j := (i + 1)) (by omega)]
  refine G_steps 4 (S1 := (299, [some (Sum.inr (Sum.inl (50, 0))), some (Sum.inr (Sum.inl (0, 0))), some (Sum.inr (Sum.inl (20, 0))), some (Sum.inl (nI i))], [Sum.inl ((nI i) + 2), Sum.inr (Sum.inl (50, 0)), Sum.inl (xs (i + 1)), Sum.inr (Sum.inl (20, 0)), Sum.inl y], (v1, u, c))) rfl rfl ?_
  refine G_top (nI_a2 i) ?_
  refine G_step (S1 := (300, [some (Sum.inr (Sum.inl (50, 0))), some (Sum.inr (Sum.inl (0, 0))), some (Sum.inr (Sum.inl (20, 0))), some (Sum.inl (nI i))], [Sum.inl (xs (ix (nI (i + 2)))), Sum.inl (xs (i + 1)), Sum.inr (Sum.inl (20, 0)), Sum.inl y], (v1, u, c))) rfl (ib_L (by omega) hL) ?_
  rw [ix_nI (j := (i + 2)) (by omega)]
  refine G_call (y := some (Sum.inl y)) (M1 := (v1, u1, c)) rfl rfl hE2 ?_
  refine G_is (S' := (303, [some (Sum.inr (Sum.inl (50, 0))), some (Sum.inr (Sum.inl (0, 0))), some (Sum.inr (Sum.inl (20, 0))), some (Sum.inl (nI i))], [Sum.inl y, Sum.inl y], (v1, u1, c))) rfl ?_
  refine G_steps 1 (S1 := (if y = y then 536 else 306, [some (Sum.inr (Sum.inl (50, 0))), some (Sum.inr (Sum.inl (0, 0))), some (Sum.inr (Sum.inl (20, 0))), some (Sum.inl (nI i))], [], (v1, u1, c))) rfl rfl ?_
  refine G_iT rfl ?_
  refine G_steps 2 (S1 := (28, [some (Sum.inr (Sum.inl (50, 0))), some (Sum.inr (Sum.inl (0, 0))), some (Sum.inr (Sum.inl (20, 0))), some (Sum.inl ((nI i) + 3))], [], (v1, u1, c))) rfl rfl ?_
  exact G_is (by rw [nI_a3]) (K v1 u1 hR)
set_option maxRecDepth 100000 in
theorem lc_incarnation {n L : Nat} {xs : Nat → Int32} {v u : mV} {c i : Nat} {Z : aS → Prop} (hc : c = (K_T n).length) (h : R_R n v u) (hi : i + 2 < L) (hL : L ≤ 1537) (K : ∀ v1 u1, R_R n v1 u1 → G_o false n L xs (E_v false n L xs 7) (l_k cd_83) Z (28, [some (Sum.inr (Sum.inl (50, 0))), some (Sum.inr (Sum.inl (0, 0))), some (Sum.inr (Sum.inl (20, 0))), some (Sum.inl (nI (i + 3)))], [], (v1, u1, c))) : G_o false n L xs (E_v false n L xs 7) (l_k cd_83) Z (308, [some (Sum.inr (Sum.inl (50, 0))), some (Sum.inr (Sum.inl (0, 0))), some (Sum.inr (Sum.inl (20, 0))), some (Sum.inl (nI i))], [], (v, u, c)) := by
  obtain ⟨y, v1, u1, hE1, hE2, hR⟩ := pp_incarnation (L := L) (xs := xs) (x := xs (i + 1)) (z := xs (i + 2)) h hc
  refine G_steps 5 (S1 := (313, [some (Sum.inr (Sum.inl (50, 0))), some (Sum.inr (Sum.inl (0, 0))), some (Sum.inr (Sum.inl (20, 0))), some (Sum.inl (nI i))], [Sum.inl ((nI i) + 1), Sum.inr (Sum.inl (50, 0)), Sum.inr (Sum.inl (0, 0))], (v, u, c))) rfl rfl ?_
  refine G_top ((nI_succ i).symm) ?_
  refine G_step (S1 := (314, [some (Sum.inr (Sum.inl (50, 0))), some (Sum.inr (Sum.inl (0, 0))), some (Sum.inr (Sum.inl (20, 0))), some (Sum.inl (nI i))], [Sum.inl (xs (ix (nI (i + 1)))), Sum.inr (Sum.inl (0, 0))], (v, u, c))) rfl (ib_L (by omega) hL) ?_
  rw [ix_nI (j := (i + 1)) (by omega)]
  refine G_steps 4 (S1 := (318, [some (Sum.inr (Sum.inl (50, 0))), some (Sum.inr (Sum.inl (0, 0))), some (Sum.inr (Sum.inl (20, 0))), some (Sum.inl (nI i))], [Sum.inl ((nI i) + 2), Sum.inr (Sum.inl (50, 0)), Sum.inl (xs (i + 1)), Sum.inr (Sum.inl (0, 0))], (v, u, c))) rfl rfl ?_
  refine G_top (nI_a2 i) ?_
  refine G_step (S1 := (319, [some (Sum.inr (Sum.inl (50, 0))), some (Sum.inr (Sum.inl (0, 0))), some (Sum.inr (Sum.inl (20, 0))), some (Sum.inl (nI i))], [Sum.inl (xs (ix (nI (i + 2)))), Sum.inl (xs (i + 1)), Sum.inr (Sum.inl (0, 0))], (v, u, c))) rfl (ib_L (by omega) hL) ?_
  rw [ix_nI (j := (i + 2)) (by omega)]
  refine G_call (y := some (Sum.inl y)) (M1 := (v1, u, c)) rfl rfl hE1 ?_
  refine G_is (S' := (322, [some (Sum.inr (Sum.inl (50, 0))), some (Sum.inr (Sum.inl (0, 0))), some (Sum.inr (Sum.inl (20, 0))), some (Sum.inl (nI i))], [Sum.inl y], (v1, u, c))) rfl ?_
  refine G_steps 5 (S1 := (327, [some (Sum.inr (Sum.inl (50, 0))), some (Sum.inr (Sum.inl (0, 0))), some (Sum.inr (Sum.inl (20, 0))), some (Sum.inl (nI i))], [Sum.inl ((nI i) + 1), Sum.inr (Sum.inl (50, 0)), Sum.inr (Sum.inl (20, 0)), Sum.inl y], (v1, u, c))) rfl rfl ?_
  refine G_top ((nI_succ i).symm) ?_
  refine G_step (S1 := (328, [some (Sum.inr (Sum.inl (50, 0))), some (Sum.inr (Sum.inl (0, 0))), some (Sum.inr (Sum.inl (20, 0))), some (Sum.inl (nI i))], [Sum.inl (xs (ix (nI (i + 1)))), Sum.inr (Sum.inl (20, 0)), Sum.inl y], (v1, u, c))) rfl (ib_L (by omega) hL) ?_
  rw [ix_nI (j := (i + 1)) (by omega)]
  refine G_steps 4 (S1 := (332, [some (Sum.inr (Sum.inl (50, 0))), some (Sum.inr (Sum.inl (0, 0))), some (Sum.inr (Sum.inl (20, 0))), some (Sum.inl (nI i))], [Sum.inl ((nI i) + 2), Sum.inr (Sum.inl (50, 0)), Sum.inl (xs (i + 1)), Sum.inr (Sum.inl (20, 0)), Sum.inl y], (v1, u, c))) rfl rfl ?_
  refine G_top (nI_a2 i) ?_
  refine G_step (S1 := (333, [some (Sum.inr (Sum.inl (50, 0))), some (Sum.inr (Sum.inl (0, 0))), some (Sum.inr (Sum.inl (20, 0))), some (Sum.inl (nI i))], [Sum.inl (xs (ix (nI (i + 2)))), Sum.inl (xs (i + 1)), Sum.inr (Sum.inl (20, 0)), Sum.inl y], (v1, u, c))) rfl (ib_L (by omega) hL) ?_
  rw [ix_nI (j := (i + 2)) (by omega)]
  refine G_call (y := some (Sum.inl y)) (M1 := (v1, u1, c)) rfl rfl hE2 ?_
  refine G_is (S' := (336, [some (Sum.inr (Sum.inl (50, 0))), some (Sum.inr (Sum.inl (0, 0))), some (Sum.inr (Sum.inl (20, 0))), some (Sum.inl (nI i))], [Sum.inl y, Sum.inl y], (v1, u1, c))) rfl ?_
  refine G_steps 1 (S1 := (if y = y then 536 else 339, [some (Sum.inr (Sum.inl (50, 0))), some (Sum.inr (Sum.inl (0, 0))), some (Sum.inr (Sum.inl (20, 0))), some (Sum.inl (nI i))], [], (v1, u1, c))) rfl rfl ?_
  refine G_iT rfl ?_
  refine G_steps 2 (S1 := (28, [some (Sum.inr (Sum.inl (50, 0))), some (Sum.inr (Sum.inl (0, 0))), some (Sum.inr (Sum.inl (20, 0))), some (Sum.inl ((nI i) + 3))], [], (v1, u1, c))) rfl rfl ?_
  exact G_is (by rw [nI_a3]) (K v1 u1 hR)
set_option maxRecDepth 100000 in
theorem lc_timer {n L : Nat} {xs : Nat → Int32} {v u : mV} {c i : Nat} {Z : aS → Prop} (hc : c = (K_T n).length) (h : R_R n v u) (hi : i + 2 < L) (hL : L ≤ 1537) (K : ∀ v1 u1, R_R n v1 u1 → G_o false n L xs (E_v false n L xs 7) (l_k cd_83) Z (28, [some (Sum.inr (Sum.inl (50, 0))), some (Sum.inr (Sum.inl (0, 0))), some (Sum.inr (Sum.inl (20, 0))), some (Sum.inl (nI (i + 3)))], [], (v1, u1, c))) : G_o false n L xs (E_v false n L xs 7) (l_k cd_83) Z (341, [some (Sum.inr (Sum.inl (50, 0))), some (Sum.inr (Sum.inl (0, 0))), some (Sum.inr (Sum.inl (20, 0))), some (Sum.inl (nI i))], [], (v, u, c)) := by
  obtain ⟨y, v1, u1, hE1, hE2, hR⟩ := pp_timer (L := L) (xs := xs) (x := xs (i + 1)) (z := xs (i + 2)) h hc
  refine G_steps 5 (S1 := (346, [some (Sum.inr (Sum.inl (50, 0))), some (Sum.inr (Sum.inl (0, 0))), some (Sum.inr (Sum.inl (20, 0))), some (Sum.inl (nI i))], [Sum.inl ((nI i) + 1), Sum.inr (Sum.inl (50, 0)), Sum.inr (Sum.inl (0, 0))], (v, u, c))) rfl rfl ?_
  refine G_top ((nI_succ i).symm) ?_
  refine G_step (S1 := (347, [some (Sum.inr (Sum.inl (50, 0))), some (Sum.inr (Sum.inl (0, 0))), some (Sum.inr (Sum.inl (20, 0))), some (Sum.inl (nI i))], [Sum.inl (xs (ix (nI (i + 1)))), Sum.inr (Sum.inl (0, 0))], (v, u, c))) rfl (ib_L (by omega) hL) ?_
  rw [ix_nI (j := (i + 1)) (by omega)]
  refine G_steps 4 (S1 := (351, [some (Sum.inr (Sum.inl (50, 0))), some (Sum.inr (Sum.inl (0, 0))), some (Sum.inr (Sum.inl (20, 0))), some (Sum.inl (nI i))], [Sum.inl ((nI i) + 2), Sum.inr (Sum.inl (50, 0)), Sum.inl (xs (i + 1)), Sum.inr (Sum.inl (0, 0))], (v, u, c))) rfl rfl ?_
  refine G_top (nI_a2 i) ?_
  refine G_step (S1 := (352, [some (Sum.inr (Sum.inl (50, 0))), some (Sum.inr (Sum.inl (0, 0))), some (Sum.inr (Sum.inl (20, 0))), some (Sum.inl (nI i))], [Sum.inl (xs (ix (nI (i + 2)))), Sum.inl (xs (i + 1)), Sum.inr (Sum.inl (0, 0))], (v, u, c))) rfl (ib_L (by omega) hL) ?_
  rw [ix_nI (j := (i + 2)) (by omega)]
  refine G_call (y := some (Sum.inl y)) (M1 := (v1, u, c)) rfl rfl hE1 ?_
  refine G_is (S' := (355, [some (Sum.inr (Sum.inl (50, 0))), some (Sum.inr (Sum.inl (0, 0))), some (Sum.inr (Sum.inl (20, 0))), some (Sum.inl (nI i))], [Sum.inl y], (v1, u, c))) rfl ?_
  refine G_steps 5 (S1 := (360, [some (Sum.inr (Sum.inl (50, 0))), some (Sum.inr (Sum.inl (0, 0))), some (Sum.inr (Sum.inl (20, 0))), some (Sum.inl (nI i))], [Sum.inl ((nI i) + 1), Sum.inr (Sum.inl (50, 0)), Sum.inr (Sum.inl (20, 0)), Sum.inl y], (v1, u, c))) rfl rfl ?_
  refine G_top ((nI_succ i).symm) ?_
  refine G_step (S1 := (361, [some (Sum.inr (Sum.inl (50, 0))), some (Sum.inr (Sum.inl (0, 0))), some (Sum.inr (Sum.inl (20, 0))), some (Sum.inl (nI i))], [Sum.inl (xs (ix (nI (i + 1)))), Sum.inr (Sum.inl (20, 0)), Sum.inl y], (v1, u, c))) rfl (ib_L (by omega) hL) ?_
  rw [ix_nI (j := (i + 1)) (by omega)]
  refine G_steps 4 (S1 := (365, [some (Sum.inr (Sum.inl (50, 0))), some (Sum.inr (Sum.inl (0, 0))), some (Sum.inr (Sum.inl (20, 0))), some (Sum.inl (nI i))], [Sum.inl ((nI i) + 2), Sum.inr (Sum.inl (50, 0)), Sum.inl (xs (i + 1)), Sum.inr (Sum.inl (20, 0)), Sum.inl y], (v1, u, c))) rfl rfl ?_
  refine G_top (nI_a2 i) ?_
  refine G_step (S1 := (366, [some (Sum.inr (Sum.inl (50, 0))), some (Sum.inr (Sum.inl (0, 0))), some (Sum.inr (Sum.inl (20, 0))), some (Sum.inl (nI i))], [Sum.inl (xs (ix (nI (i + 2)))), Sum.inl (xs (i + 1)), Sum.inr (Sum.inl (20, 0)), Sum.inl y], (v1, u, c))) rfl (ib_L (by omega) hL) ?_
  rw [ix_nI (j := (i + 2)) (by omega)]
  refine G_call (y := some (Sum.inl y)) (M1 := (v1, u1, c)) rfl rfl hE2 ?_
  refine G_is (S' := (369, [some (Sum.inr (Sum.inl (50, 0))), some (Sum.inr (Sum.inl (0, 0))), some (Sum.inr (Sum.inl (20, 0))), some (Sum.inl (nI i))], [Sum.inl y, Sum.inl y], (v1, u1, c))) rfl ?_
  refine G_steps 1 (S1 := (if y = y then 536 else 372, [some (Sum.inr (Sum.inl (50, 0))), some (Sum.inr (Sum.inl (0, 0))), some (Sum.inr (Sum.inl (20, 0))), some (Sum.inl (nI i))], [], (v1, u1, c))) rfl rfl ?_
  refine G_iT rfl ?_
  refine G_steps 2 (S1 := (28, [some (Sum.inr (Sum.inl (50, 0))), some (Sum.inr (Sum.inl (0, 0))), some (Sum.inr (Sum.inl (20, 0))), some (Sum.inl ((nI i) + 3))], [], (v1, u1, c))) rfl rfl ?_
  exact G_is (by rw [nI_a3]) (K v1 u1 hR)
set_option maxRecDepth 100000 in
theorem lc_probe {n L : Nat} {xs : Nat → Int32} {v u : mV} {c i : Nat} {Z : aS → Prop} (hc : c = (K_T n).length) (h : R_R n v u) (hi : i + 2 < L) (hL : L ≤ 1537) (K : ∀ v1 u1, R_R n v1 u1 → G_o false n L xs (E_v false n L xs 7) (l_k cd_83) Z (28, [some (Sum.inr (Sum.inl (50, 0))), some (Sum.inr (Sum.inl (0, 0))), some (Sum.inr (Sum.inl (20, 0))), some (Sum.inl (nI (i + 3)))], [], (v1, u1, c))) : G_o false n L xs (E_v false n L xs 7) (l_k cd_83) Z (374, [some (Sum.inr (Sum.inl (50, 0))), some (Sum.inr (Sum.inl (0, 0))), some (Sum.inr (Sum.inl (20, 0))), some (Sum.inl (nI i))], [], (v, u, c)) := by
  obtain ⟨y, v1, u1, hE1, hE2, hR⟩ := pp_probe (L := L) (xs := xs) (x := xs (i + 1)) h hc
  refine G_steps 5 (S1 := (379, [some (Sum.inr (Sum.inl (50, 0))), some (Sum.inr (Sum.inl (0, 0))), some (Sum.inr (Sum.inl (20, 0))), some (Sum.inl (nI i))], [Sum.inl ((nI i) + 1), Sum.inr (Sum.inl (50, 0)), Sum.inr (Sum.inl (0, 0))], (v, u, c))) rfl rfl ?_
  refine G_top ((nI_succ i).symm) ?_
  refine G_step (S1 := (380, [some (Sum.inr (Sum.inl (50, 0))), some (Sum.inr (Sum.inl (0, 0))), some (Sum.inr (Sum.inl (20, 0))), some (Sum.inl (nI i))], [Sum.inl (xs (ix (nI (i + 1)))), Sum.inr (Sum.inl (0, 0))], (v, u, c))) rfl (ib_L (by omega) hL) ?_
  rw [ix_nI (j := (i + 1)) (by omega)]
  refine G_call (y := some (Sum.inl y)) (M1 := (v1, u, c)) rfl rfl hE1 ?_
  refine G_is (S' := (383, [some (Sum.inr (Sum.inl (50, 0))), some (Sum.inr (Sum.inl (0, 0))), some (Sum.inr (Sum.inl (20, 0))), some (Sum.inl (nI i))], [Sum.inl y], (v1, u, c))) rfl ?_
  refine G_steps 5 (S1 := (388, [some (Sum.inr (Sum.inl (50, 0))), some (Sum.inr (Sum.inl (0, 0))), some (Sum.inr (Sum.inl (20, 0))), some (Sum.inl (nI i))], [Sum.inl ((nI i) + 1), Sum.inr (Sum.inl (50, 0)), Sum.inr (Sum.inl (20, 0)), Sum.inl y], (v1, u, c))) rfl rfl ?_
  refine G_top ((nI_succ i).symm) ?_
  refine G_step (S1 := (389, [some (Sum.inr (Sum.inl (50, 0))), some (Sum.inr (Sum.inl (0, 0))), some (Sum.inr (Sum.inl (20, 0))), some (Sum.inl (nI i))], [Sum.inl (xs (ix (nI (i + 1)))), Sum.inr (Sum.inl (20, 0)), Sum.inl y], (v1, u, c))) rfl (ib_L (by omega) hL) ?_
  rw [ix_nI (j := (i + 1)) (by omega)]
  refine G_call (y := some (Sum.inl y)) (M1 := (v1, u1, c)) rfl rfl hE2 ?_
  refine G_is (S' := (392, [some (Sum.inr (Sum.inl (50, 0))), some (Sum.inr (Sum.inl (0, 0))), some (Sum.inr (Sum.inl (20, 0))), some (Sum.inl (nI i))], [Sum.inl y, Sum.inl y], (v1, u1, c))) rfl ?_
  refine G_steps 1 (S1 := (if y = y then 536 else 395, [some (Sum.inr (Sum.inl (50, 0))), some (Sum.inr (Sum.inl (0, 0))), some (Sum.inr (Sum.inl (20, 0))), some (Sum.inl (nI i))], [], (v1, u1, c))) rfl rfl ?_
  refine G_iT rfl ?_
  refine G_steps 2 (S1 := (28, [some (Sum.inr (Sum.inl (50, 0))), some (Sum.inr (Sum.inl (0, 0))), some (Sum.inr (Sum.inl (20, 0))), some (Sum.inl ((nI i) + 3))], [], (v1, u1, c))) rfl rfl ?_
  exact G_is (by rw [nI_a3]) (K v1 u1 hR)
set_option maxRecDepth 100000 in
theorem lc_sent {n L : Nat} {xs : Nat → Int32} {v u : mV} {c i : Nat} {Z : aS → Prop} (hc : c = (K_T n).length) (h : R_R n v u) (hi : i + 2 < L) (hL : L ≤ 1537) (K : ∀ v1 u1, R_R n v1 u1 → G_o false n L xs (E_v false n L xs 7) (l_k cd_83) Z (28, [some (Sum.inr (Sum.inl (50, 0))), some (Sum.inr (Sum.inl (0, 0))), some (Sum.inr (Sum.inl (20, 0))), some (Sum.inl (nI (i + 3)))], [], (v1, u1, c))) : G_o false n L xs (E_v false n L xs 7) (l_k cd_83) Z (397, [some (Sum.inr (Sum.inl (50, 0))), some (Sum.inr (Sum.inl (0, 0))), some (Sum.inr (Sum.inl (20, 0))), some (Sum.inl (nI i))], [], (v, u, c)) := by
  obtain ⟨y, v1, u1, hE1, hE2, hR⟩ := pp_sent (L := L) (xs := xs) (x := xs (i + 1)) (z := xs (i + 2)) h hc
  refine G_steps 5 (S1 := (402, [some (Sum.inr (Sum.inl (50, 0))), some (Sum.inr (Sum.inl (0, 0))), some (Sum.inr (Sum.inl (20, 0))), some (Sum.inl (nI i))], [Sum.inl ((nI i) + 1), Sum.inr (Sum.inl (50, 0)), Sum.inr (Sum.inl (0, 0))], (v, u, c))) rfl rfl ?_
  refine G_top ((nI_succ i).symm) ?_
  refine G_step (S1 := (403, [some (Sum.inr (Sum.inl (50, 0))), some (Sum.inr (Sum.inl (0, 0))), some (Sum.inr (Sum.inl (20, 0))), some (Sum.inl (nI i))], [Sum.inl (xs (ix (nI (i + 1)))), Sum.inr (Sum.inl (0, 0))], (v, u, c))) rfl (ib_L (by omega) hL) ?_
  rw [ix_nI (j := (i + 1)) (by omega)]
  refine G_steps 4 (S1 := (407, [some (Sum.inr (Sum.inl (50, 0))), some (Sum.inr (Sum.inl (0, 0))), some (Sum.inr (Sum.inl (20, 0))), some (Sum.inl (nI i))], [Sum.inl ((nI i) + 2), Sum.inr (Sum.inl (50, 0)), Sum.inl (xs (i + 1)), Sum.inr (Sum.inl (0, 0))], (v, u, c))) rfl rfl ?_
  refine G_top (nI_a2 i) ?_
  refine G_step (S1 := (408, [some (Sum.inr (Sum.inl (50, 0))), some (Sum.inr (Sum.inl (0, 0))), some (Sum.inr (Sum.inl (20, 0))), some (Sum.inl (nI i))], [Sum.inl (xs (ix (nI (i + 2)))), Sum.inl (xs (i + 1)), Sum.inr (Sum.inl (0, 0))], (v, u, c))) rfl (ib_L (by omega) hL) ?_
  rw [ix_nI (j := (i + 2)) (by omega)]
  refine G_call (y := some (Sum.inl y)) (M1 := (v1, u, c)) rfl rfl hE1 ?_
  refine G_is (S' := (411, [some (Sum.inr (Sum.inl (50, 0))), some (Sum.inr (Sum.inl (0, 0))), some (Sum.inr (Sum.inl (20, 0))), some (Sum.inl (nI i))], [Sum.inl y], (v1, u, c))) rfl ?_
  refine G_steps 5 (S1 := (416, [some (Sum.inr (Sum.inl (50, 0))), some (Sum.inr (Sum.inl (0, 0))), some (Sum.inr (Sum.inl (20, 0))), some (Sum.inl (nI i))], [Sum.inl ((nI i) + 1), Sum.inr (Sum.inl (50, 0)), Sum.inr (Sum.inl (20, 0)), Sum.inl y], (v1, u, c))) rfl rfl ?_
  refine G_top ((nI_succ i).symm) ?_
  refine G_step (S1 := (417, [some (Sum.inr (Sum.inl (50, 0))), some (Sum.inr (Sum.inl (0, 0))), some (Sum.inr (Sum.inl (20, 0))), some (Sum.inl (nI i))], [Sum.inl (xs (ix (nI (i + 1)))), Sum.inr (Sum.inl (20, 0)), Sum.inl y], (v1, u, c))) rfl (ib_L (by omega) hL) ?_
  rw [ix_nI (j := (i + 1)) (by omega)]
  refine G_steps 4 (S1 := (421, [some (Sum.inr (Sum.inl (50, 0))), some (Sum.inr (Sum.inl (0, 0))), some (Sum.inr (Sum.inl (20, 0))), some (Sum.inl (nI i))], [Sum.inl ((nI i) + 2), Sum.inr (Sum.inl (50, 0)), Sum.inl (xs (i + 1)), Sum.inr (Sum.inl (20, 0)), Sum.inl y], (v1, u, c))) rfl rfl ?_
  refine G_top (nI_a2 i) ?_
  refine G_step (S1 := (422, [some (Sum.inr (Sum.inl (50, 0))), some (Sum.inr (Sum.inl (0, 0))), some (Sum.inr (Sum.inl (20, 0))), some (Sum.inl (nI i))], [Sum.inl (xs (ix (nI (i + 2)))), Sum.inl (xs (i + 1)), Sum.inr (Sum.inl (20, 0)), Sum.inl y], (v1, u, c))) rfl (ib_L (by omega) hL) ?_
  rw [ix_nI (j := (i + 2)) (by omega)]
  refine G_call (y := some (Sum.inl y)) (M1 := (v1, u1, c)) rfl rfl hE2 ?_
  refine G_is (S' := (425, [some (Sum.inr (Sum.inl (50, 0))), some (Sum.inr (Sum.inl (0, 0))), some (Sum.inr (Sum.inl (20, 0))), some (Sum.inl (nI i))], [Sum.inl y, Sum.inl y], (v1, u1, c))) rfl ?_
  refine G_steps 1 (S1 := (if y = y then 536 else 428, [some (Sum.inr (Sum.inl (50, 0))), some (Sum.inr (Sum.inl (0, 0))), some (Sum.inr (Sum.inl (20, 0))), some (Sum.inl (nI i))], [], (v1, u1, c))) rfl rfl ?_
  refine G_iT rfl ?_
  refine G_steps 2 (S1 := (28, [some (Sum.inr (Sum.inl (50, 0))), some (Sum.inr (Sum.inl (0, 0))), some (Sum.inr (Sum.inl (20, 0))), some (Sum.inl ((nI i) + 3))], [], (v1, u1, c))) rfl rfl ?_
  exact G_is (by rw [nI_a3]) (K v1 u1 hR)
set_option maxRecDepth 100000 in
theorem lc_flying {n L : Nat} {xs : Nat → Int32} {v u : mV} {c i : Nat} {Z : aS → Prop} (hc : c = (K_T n).length) (h : R_R n v u) (hi : i + 2 < L) (hL : L ≤ 1537) (K : ∀ v1 u1, R_R n v1 u1 → G_o false n L xs (E_v false n L xs 7) (l_k cd_83) Z (28, [some (Sum.inr (Sum.inl (50, 0))), some (Sum.inr (Sum.inl (0, 0))), some (Sum.inr (Sum.inl (20, 0))), some (Sum.inl (nI (i + 3)))], [], (v1, u1, c))) : G_o false n L xs (E_v false n L xs 7) (l_k cd_83) Z (430, [some (Sum.inr (Sum.inl (50, 0))), some (Sum.inr (Sum.inl (0, 0))), some (Sum.inr (Sum.inl (20, 0))), some (Sum.inl (nI i))], [], (v, u, c)) := by
  obtain ⟨y, v1, u1, hE1, hE2, hR⟩ := pp_flying (L := L) (xs := xs) h hc
  refine G_steps 1 (S1 := (431, [some (Sum.inr (Sum.inl (50, 0))), some (Sum.inr (Sum.inl (0, 0))), some (Sum.inr (Sum.inl (20, 0))), some (Sum.inl (nI i))], [Sum.inr (Sum.inl (0, 0))], (v, u, c))) rfl rfl ?_
  refine G_call (y := some (Sum.inl y)) (M1 := (v1, u, c)) rfl rfl hE1 ?_
  refine G_is (S' := (434, [some (Sum.inr (Sum.inl (50, 0))), some (Sum.inr (Sum.inl (0, 0))), some (Sum.inr (Sum.inl (20, 0))), some (Sum.inl (nI i))], [Sum.inl y], (v1, u, c))) rfl ?_
  refine G_steps 1 (S1 := (435, [some (Sum.inr (Sum.inl (50, 0))), some (Sum.inr (Sum.inl (0, 0))), some (Sum.inr (Sum.inl (20, 0))), some (Sum.inl (nI i))], [Sum.inr (Sum.inl (20, 0)), Sum.inl y], (v1, u, c))) rfl rfl ?_
  refine G_call (y := some (Sum.inl y)) (M1 := (v1, u1, c)) rfl rfl hE2 ?_
  refine G_is (S' := (438, [some (Sum.inr (Sum.inl (50, 0))), some (Sum.inr (Sum.inl (0, 0))), some (Sum.inr (Sum.inl (20, 0))), some (Sum.inl (nI i))], [Sum.inl y, Sum.inl y], (v1, u1, c))) rfl ?_
  refine G_steps 1 (S1 := (if y = y then 536 else 441, [some (Sum.inr (Sum.inl (50, 0))), some (Sum.inr (Sum.inl (0, 0))), some (Sum.inr (Sum.inl (20, 0))), some (Sum.inl (nI i))], [], (v1, u1, c))) rfl rfl ?_
  refine G_iT rfl ?_
  refine G_steps 2 (S1 := (28, [some (Sum.inr (Sum.inl (50, 0))), some (Sum.inr (Sum.inl (0, 0))), some (Sum.inr (Sum.inl (20, 0))), some (Sum.inl ((nI i) + 3))], [], (v1, u1, c))) rfl rfl ?_
  exact G_is (by rw [nI_a3]) (K v1 u1 hR)
set_option maxRecDepth 100000 in
theorem lc_message {n L : Nat} {xs : Nat → Int32} {v u : mV} {c i : Nat} {Z : aS → Prop} (hc : c = (K_T n).length) (h : R_R n v u) (hi : i + 2 < L) (hL : L ≤ 1537) (K : ∀ v1 u1, R_R n v1 u1 → G_o false n L xs (E_v false n L xs 7) (l_k cd_83) Z (28, [some (Sum.inr (Sum.inl (50, 0))), some (Sum.inr (Sum.inl (0, 0))), some (Sum.inr (Sum.inl (20, 0))), some (Sum.inl (nI (i + 3)))], [], (v1, u1, c))) : G_o false n L xs (E_v false n L xs 7) (l_k cd_83) Z (443, [some (Sum.inr (Sum.inl (50, 0))), some (Sum.inr (Sum.inl (0, 0))), some (Sum.inr (Sum.inl (20, 0))), some (Sum.inl (nI i))], [], (v, u, c)) := by
  obtain ⟨y, v1, u1, hE1, hE2, hR⟩ := pp_message (L := L) (xs := xs) (x := xs (i + 1)) h hc
  refine G_steps 5 (S1 := (448, [some (Sum.inr (Sum.inl (50, 0))), some (Sum.inr (Sum.inl (0, 0))), some (Sum.inr (Sum.inl (20, 0))), some (Sum.inl (nI i))], [Sum.inl ((nI i) + 1), Sum.inr (Sum.inl (50, 0)), Sum.inr (Sum.inl (0, 0))], (v, u, c))) rfl rfl ?_
  refine G_top ((nI_succ i).symm) ?_
  refine G_step (S1 := (449, [some (Sum.inr (Sum.inl (50, 0))), some (Sum.inr (Sum.inl (0, 0))), some (Sum.inr (Sum.inl (20, 0))), some (Sum.inl (nI i))], [Sum.inl (xs (ix (nI (i + 1)))), Sum.inr (Sum.inl (0, 0))], (v, u, c))) rfl (ib_L (by omega) hL) ?_
  rw [ix_nI (j := (i + 1)) (by omega)]
  refine G_call (y := some (Sum.inl y)) (M1 := (v1, u, c)) rfl rfl hE1 ?_
  refine G_is (S' := (452, [some (Sum.inr (Sum.inl (50, 0))), some (Sum.inr (Sum.inl (0, 0))), some (Sum.inr (Sum.inl (20, 0))), some (Sum.inl (nI i))], [Sum.inl y], (v1, u, c))) rfl ?_
  refine G_steps 5 (S1 := (457, [some (Sum.inr (Sum.inl (50, 0))), some (Sum.inr (Sum.inl (0, 0))), some (Sum.inr (Sum.inl (20, 0))), some (Sum.inl (nI i))], [Sum.inl ((nI i) + 1), Sum.inr (Sum.inl (50, 0)), Sum.inr (Sum.inl (20, 0)), Sum.inl y], (v1, u, c))) rfl rfl ?_
  refine G_top ((nI_succ i).symm) ?_
  refine G_step (S1 := (458, [some (Sum.inr (Sum.inl (50, 0))), some (Sum.inr (Sum.inl (0, 0))), some (Sum.inr (Sum.inl (20, 0))), some (Sum.inl (nI i))], [Sum.inl (xs (ix (nI (i + 1)))), Sum.inr (Sum.inl (20, 0)), Sum.inl y], (v1, u, c))) rfl (ib_L (by omega) hL) ?_
  rw [ix_nI (j := (i + 1)) (by omega)]
  refine G_call (y := some (Sum.inl y)) (M1 := (v1, u1, c)) rfl rfl hE2 ?_
  refine G_is (S' := (461, [some (Sum.inr (Sum.inl (50, 0))), some (Sum.inr (Sum.inl (0, 0))), some (Sum.inr (Sum.inl (20, 0))), some (Sum.inl (nI i))], [Sum.inl y, Sum.inl y], (v1, u1, c))) rfl ?_
  refine G_steps 1 (S1 := (if y = y then 536 else 464, [some (Sum.inr (Sum.inl (50, 0))), some (Sum.inr (Sum.inl (0, 0))), some (Sum.inr (Sum.inl (20, 0))), some (Sum.inl (nI i))], [], (v1, u1, c))) rfl rfl ?_
  refine G_iT rfl ?_
  refine G_steps 2 (S1 := (28, [some (Sum.inr (Sum.inl (50, 0))), some (Sum.inr (Sum.inl (0, 0))), some (Sum.inr (Sum.inl (20, 0))), some (Sum.inl ((nI i) + 3))], [], (v1, u1, c))) rfl rfl ?_
  exact G_is (by rw [nI_a3]) (K v1 u1 hR)
set_option maxRecDepth 100000 in
theorem lc_news {n L : Nat} {xs : Nat → Int32} {v u : mV} {c i : Nat} {Z : aS → Prop} (hc : c = (K_T n).length) (h : R_R n v u) (hi : i + 2 < L) (hL : L ≤ 1537) (K : ∀ v1 u1, R_R n v1 u1 → G_o false n L xs (E_v false n L xs 7) (l_k cd_83) Z (28, [some (Sum.inr (Sum.inl (50, 0))), some (Sum.inr (Sum.inl (0, 0))), some (Sum.inr (Sum.inl (20, 0))), some (Sum.inl (nI (i + 3)))], [], (v1, u1, c))) : G_o false n L xs (E_v false n L xs 7) (l_k cd_83) Z (466, [some (Sum.inr (Sum.inl (50, 0))), some (Sum.inr (Sum.inl (0, 0))), some (Sum.inr (Sum.inl (20, 0))), some (Sum.inl (nI i))], [], (v, u, c)) := by
  obtain ⟨y, v1, u1, hE1, hE2, hR⟩ := pp_news (L := L) (xs := xs) (x := xs (i + 1)) (z := xs (i + 2)) h hc
  refine G_steps 5 (S1 := (471, [some (Sum.inr (Sum.inl (50, 0))), some (Sum.inr (Sum.inl (0, 0))), some (Sum.inr (Sum.inl (20, 0))), some (Sum.inl (nI i))], [Sum.inl ((nI i) + 1), Sum.inr (Sum.inl (50, 0)), Sum.inr (Sum.inl (0, 0))], (v, u, c))) rfl rfl ?_
  refine G_top ((nI_succ i).symm) ?_
  refine G_step (S1 := (472, [some (Sum.inr (Sum.inl (50, 0))), some (Sum.inr (Sum.inl (0, 0))), some (Sum.inr (Sum.inl (20, 0))), some (Sum.inl (nI i))], [Sum.inl (xs (ix (nI (i + 1)))), Sum.inr (Sum.inl (0, 0))], (v, u, c))) rfl (ib_L (by omega) hL) ?_
  rw [ix_nI (j := (i + 1)) (by omega)]
  refine G_steps 4 (S1 := (476, [some (Sum.inr (Sum.inl (50, 0))), some (Sum.inr (Sum.inl (0, 0))), some (Sum.inr (Sum.inl (20, 0))), some (Sum.inl (nI i))], [Sum.inl ((nI i) + 2), Sum.inr (Sum.inl (50, 0)), Sum.inl (xs (i + 1)), Sum.inr (Sum.inl (0, 0))], (v, u, c))) rfl rfl ?_
  refine G_top (nI_a2 i) ?_
  refine G_step (S1 := (477, [some (Sum.inr (Sum.inl (50, 0))), some (Sum.inr (Sum.inl (0, 0))), some (Sum.inr (Sum.inl (20, 0))), some (Sum.inl (nI i))], [Sum.inl (xs (ix (nI (i + 2)))), Sum.inl (xs (i + 1)), Sum.inr (Sum.inl (0, 0))], (v, u, c))) rfl (ib_L (by omega) hL) ?_
  rw [ix_nI (j := (i + 2)) (by omega)]
  refine G_call (y := some (Sum.inr (Sum.inr y))) (M1 := (v1, u, c)) rfl rfl hE1 ?_
  refine G_is (S' := (480, [some (Sum.inr (Sum.inl (50, 0))), some (Sum.inr (Sum.inl (0, 0))), some (Sum.inr (Sum.inl (20, 0))), some (Sum.inl (nI i))], [Sum.inr (Sum.inr y)], (v1, u, c))) rfl ?_
  refine G_steps 5 (S1 := (485, [some (Sum.inr (Sum.inl (50, 0))), some (Sum.inr (Sum.inl (0, 0))), some (Sum.inr (Sum.inl (20, 0))), some (Sum.inl (nI i))], [Sum.inl ((nI i) + 1), Sum.inr (Sum.inl (50, 0)), Sum.inr (Sum.inl (20, 0)), Sum.inr (Sum.inr y)], (v1, u, c))) rfl rfl ?_
  refine G_top ((nI_succ i).symm) ?_
  refine G_step (S1 := (486, [some (Sum.inr (Sum.inl (50, 0))), some (Sum.inr (Sum.inl (0, 0))), some (Sum.inr (Sum.inl (20, 0))), some (Sum.inl (nI i))], [Sum.inl (xs (ix (nI (i + 1)))), Sum.inr (Sum.inl (20, 0)), Sum.inr (Sum.inr y)], (v1, u, c))) rfl (ib_L (by omega) hL) ?_
  rw [ix_nI (j := (i + 1)) (by omega)]
  refine G_steps 4 (S1 := (490, [some (Sum.inr (Sum.inl (50, 0))), some (Sum.inr (Sum.inl (0, 0))), some (Sum.inr (Sum.inl (20, 0))), some (Sum.inl (nI i))], [Sum.inl ((nI i) + 2), Sum.inr (Sum.inl (50, 0)), Sum.inl (xs (i + 1)), Sum.inr (Sum.inl (20, 0)), Sum.inr (Sum.inr y)], (v1, u, c))) rfl rfl ?_
  refine G_top (nI_a2 i) ?_
  refine G_step (S1 := (491, [some (Sum.inr (Sum.inl (50, 0))), some (Sum.inr (Sum.inl (0, 0))), some (Sum.inr (Sum.inl (20, 0))), some (Sum.inl (nI i))], [Sum.inl (xs (ix (nI (i + 2)))), Sum.inl (xs (i + 1)), Sum.inr (Sum.inl (20, 0)), Sum.inr (Sum.inr y)], (v1, u, c))) rfl (ib_L (by omega) hL) ?_
  rw [ix_nI (j := (i + 2)) (by omega)]
  refine G_call (y := some (Sum.inr (Sum.inr y))) (M1 := (v1, u1, c)) rfl rfl hE2 ?_
  refine G_is (S' := (494, [some (Sum.inr (Sum.inl (50, 0))), some (Sum.inr (Sum.inl (0, 0))), some (Sum.inr (Sum.inl (20, 0))), some (Sum.inl (nI i))], [Sum.inr (Sum.inr y), Sum.inr (Sum.inr y)], (v1, u1, c))) rfl ?_
  refine G_steps 2 (S1 := (if lg_cmp y y = 0 then 536 else 498, [some (Sum.inr (Sum.inl (50, 0))), some (Sum.inr (Sum.inl (0, 0))), some (Sum.inr (Sum.inl (20, 0))), some (Sum.inl (nI i))], [], (v1, u1, c))) rfl rfl ?_
  refine G_iT ((lg_cmp_eq y y).mpr rfl) ?_
  refine G_steps 2 (S1 := (28, [some (Sum.inr (Sum.inl (50, 0))), some (Sum.inr (Sum.inl (0, 0))), some (Sum.inr (Sum.inl (20, 0))), some (Sum.inl ((nI i) + 3))], [], (v1, u1, c))) rfl rfl ?_
  exact G_is (by rw [nI_a3]) (K v1 u1 hR)
set_option maxRecDepth 100000 in
theorem lc_declared {n L : Nat} {xs : Nat → Int32} {v u : mV} {c i : Nat} {Z : aS → Prop} (hc : c = (K_T n).length) (h : R_R n v u) (hi : i + 2 < L) (hL : L ≤ 1537) (K : ∀ v1 u1, R_R n v1 u1 → G_o false n L xs (E_v false n L xs 7) (l_k cd_83) Z (28, [some (Sum.inr (Sum.inl (50, 0))), some (Sum.inr (Sum.inl (0, 0))), some (Sum.inr (Sum.inl (20, 0))), some (Sum.inl (nI (i + 3)))], [], (v1, u1, c))) : G_o false n L xs (E_v false n L xs 7) (l_k cd_83) Z (500, [some (Sum.inr (Sum.inl (50, 0))), some (Sum.inr (Sum.inl (0, 0))), some (Sum.inr (Sum.inl (20, 0))), some (Sum.inl (nI i))], [], (v, u, c)) := by
  obtain ⟨y, v1, u1, hE1, hE2, hR⟩ := pp_declared (L := L) (xs := xs) (x := xs (i + 1)) h hc
  refine G_steps 5 (S1 := (505, [some (Sum.inr (Sum.inl (50, 0))), some (Sum.inr (Sum.inl (0, 0))), some (Sum.inr (Sum.inl (20, 0))), some (Sum.inl (nI i))], [Sum.inl ((nI i) + 1), Sum.inr (Sum.inl (50, 0)), Sum.inr (Sum.inl (0, 0))], (v, u, c))) rfl rfl ?_
  refine G_top ((nI_succ i).symm) ?_
  refine G_step (S1 := (506, [some (Sum.inr (Sum.inl (50, 0))), some (Sum.inr (Sum.inl (0, 0))), some (Sum.inr (Sum.inl (20, 0))), some (Sum.inl (nI i))], [Sum.inl (xs (ix (nI (i + 1)))), Sum.inr (Sum.inl (0, 0))], (v, u, c))) rfl (ib_L (by omega) hL) ?_
  rw [ix_nI (j := (i + 1)) (by omega)]
  refine G_call (y := some (Sum.inl y)) (M1 := (v1, u, c)) rfl rfl hE1 ?_
  refine G_is (S' := (509, [some (Sum.inr (Sum.inl (50, 0))), some (Sum.inr (Sum.inl (0, 0))), some (Sum.inr (Sum.inl (20, 0))), some (Sum.inl (nI i))], [Sum.inl y], (v1, u, c))) rfl ?_
  refine G_steps 5 (S1 := (514, [some (Sum.inr (Sum.inl (50, 0))), some (Sum.inr (Sum.inl (0, 0))), some (Sum.inr (Sum.inl (20, 0))), some (Sum.inl (nI i))], [Sum.inl ((nI i) + 1), Sum.inr (Sum.inl (50, 0)), Sum.inr (Sum.inl (20, 0)), Sum.inl y], (v1, u, c))) rfl rfl ?_
  refine G_top ((nI_succ i).symm) ?_
  refine G_step (S1 := (515, [some (Sum.inr (Sum.inl (50, 0))), some (Sum.inr (Sum.inl (0, 0))), some (Sum.inr (Sum.inl (20, 0))), some (Sum.inl (nI i))], [Sum.inl (xs (ix (nI (i + 1)))), Sum.inr (Sum.inl (20, 0)), Sum.inl y], (v1, u, c))) rfl (ib_L (by omega) hL) ?_
  rw [ix_nI (j := (i + 1)) (by omega)]
  refine G_call (y := some (Sum.inl y)) (M1 := (v1, u1, c)) rfl rfl hE2 ?_
  refine G_is (S' := (518, [some (Sum.inr (Sum.inl (50, 0))), some (Sum.inr (Sum.inl (0, 0))), some (Sum.inr (Sum.inl (20, 0))), some (Sum.inl (nI i))], [Sum.inl y, Sum.inl y], (v1, u1, c))) rfl ?_
  refine G_steps 1 (S1 := (if y = y then 536 else 521, [some (Sum.inr (Sum.inl (50, 0))), some (Sum.inr (Sum.inl (0, 0))), some (Sum.inr (Sum.inl (20, 0))), some (Sum.inl (nI i))], [], (v1, u1, c))) rfl rfl ?_
  refine G_iT rfl ?_
  refine G_steps 2 (S1 := (28, [some (Sum.inr (Sum.inl (50, 0))), some (Sum.inr (Sum.inl (0, 0))), some (Sum.inr (Sum.inl (20, 0))), some (Sum.inl ((nI i) + 3))], [], (v1, u1, c))) rfl rfl ?_
  exact G_is (by rw [nI_a3]) (K v1 u1 hR)
set_option maxRecDepth 100000 in
theorem lc_doubted {n L : Nat} {xs : Nat → Int32} {v u : mV} {c i : Nat} {Z : aS → Prop} (hc : c = (K_T n).length) (h : R_R n v u) (hi : i + 2 < L) (hL : L ≤ 1537) (K : ∀ v1 u1, R_R n v1 u1 → G_o false n L xs (E_v false n L xs 7) (l_k cd_83) Z (28, [some (Sum.inr (Sum.inl (50, 0))), some (Sum.inr (Sum.inl (0, 0))), some (Sum.inr (Sum.inl (20, 0))), some (Sum.inl (nI (i + 3)))], [], (v1, u1, c))) : G_o false n L xs (E_v false n L xs 7) (l_k cd_83) Z (523, [some (Sum.inr (Sum.inl (50, 0))), some (Sum.inr (Sum.inl (0, 0))), some (Sum.inr (Sum.inl (20, 0))), some (Sum.inl (nI i))], [], (v, u, c)) := by
  obtain ⟨y, v1, u1, hE1, hE2, hR⟩ := pp_doubted (L := L) (xs := xs) h hc
  refine G_steps 1 (S1 := (524, [some (Sum.inr (Sum.inl (50, 0))), some (Sum.inr (Sum.inl (0, 0))), some (Sum.inr (Sum.inl (20, 0))), some (Sum.inl (nI i))], [Sum.inr (Sum.inl (0, 0))], (v, u, c))) rfl rfl ?_
  refine G_call (y := some (Sum.inl y)) (M1 := (v1, u, c)) rfl rfl hE1 ?_
  refine G_is (S' := (527, [some (Sum.inr (Sum.inl (50, 0))), some (Sum.inr (Sum.inl (0, 0))), some (Sum.inr (Sum.inl (20, 0))), some (Sum.inl (nI i))], [Sum.inl y], (v1, u, c))) rfl ?_
  refine G_steps 1 (S1 := (528, [some (Sum.inr (Sum.inl (50, 0))), some (Sum.inr (Sum.inl (0, 0))), some (Sum.inr (Sum.inl (20, 0))), some (Sum.inl (nI i))], [Sum.inr (Sum.inl (20, 0)), Sum.inl y], (v1, u, c))) rfl rfl ?_
  refine G_call (y := some (Sum.inl y)) (M1 := (v1, u1, c)) rfl rfl hE2 ?_
  refine G_is (S' := (531, [some (Sum.inr (Sum.inl (50, 0))), some (Sum.inr (Sum.inl (0, 0))), some (Sum.inr (Sum.inl (20, 0))), some (Sum.inl (nI i))], [Sum.inl y, Sum.inl y], (v1, u1, c))) rfl ?_
  refine G_steps 1 (S1 := (if y = y then 536 else 534, [some (Sum.inr (Sum.inl (50, 0))), some (Sum.inr (Sum.inl (0, 0))), some (Sum.inr (Sum.inl (20, 0))), some (Sum.inl (nI i))], [], (v1, u1, c))) rfl rfl ?_
  refine G_iT rfl ?_
  refine G_steps 2 (S1 := (28, [some (Sum.inr (Sum.inl (50, 0))), some (Sum.inr (Sum.inl (0, 0))), some (Sum.inr (Sum.inl (20, 0))), some (Sum.inl ((nI i) + 3))], [], (v1, u1, c))) rfl rfl ?_
  exact G_is (by rw [nI_a3]) (K v1 u1 hR)
set_option maxRecDepth 100000 in
theorem lw_sw {n L : Nat} {xs : Nat → Int32} {v u : mV} {c i : Nat} {Z : aS → Prop} (hc : c = (K_T n).length) (h : R_R n v u) (hi : i + 2 < L) (hL : L ≤ 1537) (w : Int32) (K : ∀ v1 u1, R_R n v1 u1 → G_o false n L xs (E_v false n L xs 7) (l_k cd_83) Z (28, [some (Sum.inr (Sum.inl (50, 0))), some (Sum.inr (Sum.inl (0, 0))), some (Sum.inr (Sum.inl (20, 0))), some (Sum.inl (nI (i + 3)))], [], (v1, u1, c))) : G_o false n L xs (E_v false n L xs 7) (l_k cd_83) Z (42, [some (Sum.inr (Sum.inl (50, 0))), some (Sum.inr (Sum.inl (0, 0))), some (Sum.inr (Sum.inl (20, 0))), some (Sum.inl (nI i))], [Sum.inl w], (v, u, c)) := by
  by_cases hd : w.toInt < 0 ∨ 16 < w.toInt
  · have ho : s_o 494 0 16 #[82, 105, 128, 151, 174, 187, 210, 233, 266, 299, 332, 355, 388, 401, 424, 458, 481] w = some 494 := if_pos hd
    refine G_step (S1 := (s_w 42 494 0 16 #[82, 105, 128, 151, 174, 187, 210, 233, 266, 299, 332, 355, 388, 401, 424, 458, 481] w, [some (Sum.inr (Sum.inl (50, 0))), some (Sum.inr (Sum.inl (0, 0))), some (Sum.inr (Sum.inl (20, 0))), some (Sum.inl (nI i))], [], (v, u, c))) rfl ?_ ?_
    · unfold s_b
      rw [ho]
      rfl
    · unfold s_w
      rw [ho]
      refine G_is (S' := (536, [some (Sum.inr (Sum.inl (50, 0))), some (Sum.inr (Sum.inl (0, 0))), some (Sum.inr (Sum.inl (20, 0))), some (Sum.inl (nI i))], [], (v, u, c))) rfl ?_
      refine G_steps 2 (S1 := (28, [some (Sum.inr (Sum.inl (50, 0))), some (Sum.inr (Sum.inl (0, 0))), some (Sum.inr (Sum.inl (20, 0))), some (Sum.inl (nI i + 3))], [], (v, u, c))) rfl rfl ?_
      exact G_is (by rw [nI_a3]) (K v u h)
  · have hk : w.toInt = 0 ∨ w.toInt = 1 ∨ w.toInt = 2 ∨ w.toInt = 3 ∨ w.toInt = 4 ∨ w.toInt = 5 ∨ w.toInt = 6 ∨ w.toInt = 7 ∨ w.toInt = 8 ∨ w.toInt = 9 ∨ w.toInt = 10 ∨ w.toInt = 11 ∨ w.toInt = 12 ∨ w.toInt = 13 ∨ w.toInt = 14 ∨ w.toInt = 15 ∨ w.toInt = 16 := by omega
    rcases hk with hk | hk | hk | hk | hk | hk | hk | hk | hk | hk | hk | hk | hk | hk | hk | hk | hk
    · have hw : w = 0 := Int32.toInt_inj.mp (hk.trans (by decide))
      rw [hw]
      refine G_step (S1 := (124, [some (Sum.inr (Sum.inl (50, 0))), some (Sum.inr (Sum.inl (0, 0))), some (Sum.inr (Sum.inl (20, 0))), some (Sum.inl (nI i))], [], (v, u, c))) rfl rfl ?_
      exact lc_period hc h hi hL K
    · have hw : w = 1 := Int32.toInt_inj.mp (hk.trans (by decide))
      rw [hw]
      refine G_step (S1 := (147, [some (Sum.inr (Sum.inl (50, 0))), some (Sum.inr (Sum.inl (0, 0))), some (Sum.inr (Sum.inl (20, 0))), some (Sum.inl (nI i))], [], (v, u, c))) rfl rfl ?_
      exact lc_help hc h hi hL K
    · have hw : w = 2 := Int32.toInt_inj.mp (hk.trans (by decide))
      rw [hw]
      refine G_step (S1 := (170, [some (Sum.inr (Sum.inl (50, 0))), some (Sum.inr (Sum.inl (0, 0))), some (Sum.inr (Sum.inl (20, 0))), some (Sum.inl (nI i))], [], (v, u, c))) rfl rfl ?_
      exact lc_deliver hc h hi hL K
    · have hw : w = 3 := Int32.toInt_inj.mp (hk.trans (by decide))
      rw [hw]
      refine G_step (S1 := (193, [some (Sum.inr (Sum.inl (50, 0))), some (Sum.inr (Sum.inl (0, 0))), some (Sum.inr (Sum.inl (20, 0))), some (Sum.inl (nI i))], [], (v, u, c))) rfl rfl ?_
      exact lc_lose hc h hi hL K
    · have hw : w = 4 := Int32.toInt_inj.mp (hk.trans (by decide))
      rw [hw]
      refine G_step (S1 := (216, [some (Sum.inr (Sum.inl (50, 0))), some (Sum.inr (Sum.inl (0, 0))), some (Sum.inr (Sum.inl (20, 0))), some (Sum.inl (nI i))], [], (v, u, c))) rfl rfl ?_
      exact lc_round hc h hi hL K
    · have hw : w = 5 := Int32.toInt_inj.mp (hk.trans (by decide))
      rw [hw]
      refine G_step (S1 := (229, [some (Sum.inr (Sum.inl (50, 0))), some (Sum.inr (Sum.inl (0, 0))), some (Sum.inr (Sum.inl (20, 0))), some (Sum.inl (nI i))], [], (v, u, c))) rfl rfl ?_
      exact lc_stop hc h hi hL K
    · have hw : w = 6 := Int32.toInt_inj.mp (hk.trans (by decide))
      rw [hw]
      refine G_step (S1 := (252, [some (Sum.inr (Sum.inl (50, 0))), some (Sum.inr (Sum.inl (0, 0))), some (Sum.inr (Sum.inl (20, 0))), some (Sum.inl (nI i))], [], (v, u, c))) rfl rfl ?_
      exact lc_isUp hc h hi hL K
    · have hw : w = 7 := Int32.toInt_inj.mp (hk.trans (by decide))
      rw [hw]
      refine G_step (S1 := (275, [some (Sum.inr (Sum.inl (50, 0))), some (Sum.inr (Sum.inl (0, 0))), some (Sum.inr (Sum.inl (20, 0))), some (Sum.inl (nI i))], [], (v, u, c))) rfl rfl ?_
      exact lc_status hc h hi hL K
    · have hw : w = 8 := Int32.toInt_inj.mp (hk.trans (by decide))
      rw [hw]
      refine G_step (S1 := (308, [some (Sum.inr (Sum.inl (50, 0))), some (Sum.inr (Sum.inl (0, 0))), some (Sum.inr (Sum.inl (20, 0))), some (Sum.inl (nI i))], [], (v, u, c))) rfl rfl ?_
      exact lc_incarnation hc h hi hL K
    · have hw : w = 9 := Int32.toInt_inj.mp (hk.trans (by decide))
      rw [hw]
      refine G_step (S1 := (341, [some (Sum.inr (Sum.inl (50, 0))), some (Sum.inr (Sum.inl (0, 0))), some (Sum.inr (Sum.inl (20, 0))), some (Sum.inl (nI i))], [], (v, u, c))) rfl rfl ?_
      exact lc_timer hc h hi hL K
    · have hw : w = 10 := Int32.toInt_inj.mp (hk.trans (by decide))
      rw [hw]
      refine G_step (S1 := (374, [some (Sum.inr (Sum.inl (50, 0))), some (Sum.inr (Sum.inl (0, 0))), some (Sum.inr (Sum.inl (20, 0))), some (Sum.inl (nI i))], [], (v, u, c))) rfl rfl ?_
      exact lc_probe hc h hi hL K
    · have hw : w = 11 := Int32.toInt_inj.mp (hk.trans (by decide))
      rw [hw]
      refine G_step (S1 := (397, [some (Sum.inr (Sum.inl (50, 0))), some (Sum.inr (Sum.inl (0, 0))), some (Sum.inr (Sum.inl (20, 0))), some (Sum.inl (nI i))], [], (v, u, c))) rfl rfl ?_
      exact lc_sent hc h hi hL K
    · have hw : w = 12 := Int32.toInt_inj.mp (hk.trans (by decide))
      rw [hw]
      refine G_step (S1 := (430, [some (Sum.inr (Sum.inl (50, 0))), some (Sum.inr (Sum.inl (0, 0))), some (Sum.inr (Sum.inl (20, 0))), some (Sum.inl (nI i))], [], (v, u, c))) rfl rfl ?_
      exact lc_flying hc h hi hL K
    · have hw : w = 13 := Int32.toInt_inj.mp (hk.trans (by decide))
      rw [hw]
      refine G_step (S1 := (443, [some (Sum.inr (Sum.inl (50, 0))), some (Sum.inr (Sum.inl (0, 0))), some (Sum.inr (Sum.inl (20, 0))), some (Sum.inl (nI i))], [], (v, u, c))) rfl rfl ?_
      exact lc_message hc h hi hL K
    · have hw : w = 14 := Int32.toInt_inj.mp (hk.trans (by decide))
      rw [hw]
      refine G_step (S1 := (466, [some (Sum.inr (Sum.inl (50, 0))), some (Sum.inr (Sum.inl (0, 0))), some (Sum.inr (Sum.inl (20, 0))), some (Sum.inl (nI i))], [], (v, u, c))) rfl rfl ?_
      exact lc_news hc h hi hL K
    · have hw : w = 15 := Int32.toInt_inj.mp (hk.trans (by decide))
      rw [hw]
      refine G_step (S1 := (500, [some (Sum.inr (Sum.inl (50, 0))), some (Sum.inr (Sum.inl (0, 0))), some (Sum.inr (Sum.inl (20, 0))), some (Sum.inl (nI i))], [], (v, u, c))) rfl rfl ?_
      exact lc_declared hc h hi hL K
    · have hw : w = 16 := Int32.toInt_inj.mp (hk.trans (by decide))
      rw [hw]
      refine G_step (S1 := (523, [some (Sum.inr (Sum.inl (50, 0))), some (Sum.inr (Sum.inl (0, 0))), some (Sum.inr (Sum.inl (20, 0))), some (Sum.inl (nI i))], [], (v, u, c))) rfl rfl ?_
      exact lc_doubted hc h hi hL K
set_option maxRecDepth 100000 in
theorem lw_loop {n L : Nat} {xs : Nat → Int32} {c : Nat} (hc : c = (K_T n).length) (hL : L ≤ 1537) : ∀ r i v u, L < i + 3 + r → i ≤ 2000 → R_R n v u → G_o false n L xs (E_v false n L xs 7) (l_k cd_83) (fun S => ∃ M2, r_F (l_k cd_83) S = some (true, some (Sum.inl 1), M2) ∧ M2.2.2 = (K_T n).length) (28, [some (Sum.inr (Sum.inl (50, 0))), some (Sum.inr (Sum.inl (0, 0))), some (Sum.inr (Sum.inl (20, 0))), some (Sum.inl (nI i))], [], (v, u, c)) := by
  intro r
  induction r with
  | zero =>
    intro i v u hr hi h
    refine G_steps 6 (S1 := (if nI L - 3 < nI i then 542 else 36, [some (Sum.inr (Sum.inl (50, 0))), some (Sum.inr (Sum.inl (0, 0))), some (Sum.inr (Sum.inl (20, 0))), some (Sum.inl (nI i))], [], (v, u, c))) rfl rfl ?_
    refine G_iT ((gt_L hi hL).mpr hr) ?_
    refine G_steps 1 (S1 := (543, [some (Sum.inr (Sum.inl (50, 0))), some (Sum.inr (Sum.inl (0, 0))), some (Sum.inr (Sum.inl (20, 0))), some (Sum.inl (nI i))], [Sum.inl 1], (v, u, c))) rfl rfl ?_
    exact G_end ⟨(v, u, c), rfl, hc⟩
  | succ r ih =>
    intro i v u hr hi h
    refine G_steps 6 (S1 := (if nI L - 3 < nI i then 542 else 36, [some (Sum.inr (Sum.inl (50, 0))), some (Sum.inr (Sum.inl (0, 0))), some (Sum.inr (Sum.inl (20, 0))), some (Sum.inl (nI i))], [], (v, u, c))) rfl rfl ?_
    by_cases hg : L < i + 3
    · refine G_iT ((gt_L hi hL).mpr hg) ?_
      refine G_steps 1 (S1 := (543, [some (Sum.inr (Sum.inl (50, 0))), some (Sum.inr (Sum.inl (0, 0))), some (Sum.inr (Sum.inl (20, 0))), some (Sum.inl (nI i))], [Sum.inl 1], (v, u, c))) rfl rfl ?_
      exact G_end ⟨(v, u, c), rfl, hc⟩
    · refine G_iF (fun z => hg ((gt_L hi hL).mp z)) ?_
      refine G_steps 2 (S1 := (38, [some (Sum.inr (Sum.inl (50, 0))), some (Sum.inr (Sum.inl (0, 0))), some (Sum.inr (Sum.inl (20, 0))), some (Sum.inl (nI i))], [Sum.inl (nI i), Sum.inr (Sum.inl (50, 0))], (v, u, c))) rfl rfl ?_
      refine G_step (S1 := (39, [some (Sum.inr (Sum.inl (50, 0))), some (Sum.inr (Sum.inl (0, 0))), some (Sum.inr (Sum.inl (20, 0))), some (Sum.inl (nI i))], [Sum.inl (xs (ix (nI i)))], (v, u, c))) rfl (ib_L (by omega) hL) ?_
      refine G_steps 2 (S1 := (42, [some (Sum.inr (Sum.inl (50, 0))), some (Sum.inr (Sum.inl (0, 0))), some (Sum.inr (Sum.inl (20, 0))), some (Sum.inl (nI i))], [Sum.inl (xs (ix (nI i)) &&& 31)], (v, u, c))) rfl rfl ?_
      exact lw_sw hc h (by omega) hL _ (fun v1 u1 h1 => ih (i + 3) v1 u1 (by omega) (by omega) h1)
