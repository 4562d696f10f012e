theorem cp_a {u : mV} {k t j K : Nat} (h1 : 33 ≤ K) (h2 : K ≤ 39) : d_cp u k t K 0 j = if j = t then u K 0 k else u K 0 j := by
  have hK : K = 33 ∨ K = 34 ∨ K = 35 ∨ K = 36 ∨ K = 37 ∨ K = 38 ∨ K = 39 := by omega
  unfold d_cp
  rcases hK with rfl | rfl | rfl | rfl | rfl | rfl | rfl <;> rw [cn_k rfl] <;> simp [m_u3]
theorem cp_b {u : mV} {k t i e K : Nat} (h1 : 40 ≤ K) (h2 : K ≤ 42) (he : e < 2) : d_cp u k t K 0 (2 * i + e) = if i = t then u K 0 (2 * k + e) else u K 0 (2 * i + e) := by
  have hK : K = 40 ∨ K = 41 ∨ K = 42 := by omega
  unfold d_cp
  generalize hw : m_u3 (m_u3 (m_u3 (m_u3 (m_u3 (m_u3 (m_u3 u 33 0 t (u 33 0 k)) 34 0 t (u 34 0 k)) 35 0 t (u 35 0 k)) 36 0 t (u 36 0 k)) 37 0 t (u 37 0 k)) 38 0 t (u 38 0 k)) 39 0 t (u 39 0 k) = w
  have ew : w K = u K := by
    rw [← hw]
    rcases hK with rfl | rfl | rfl <;> rw [u3_k rfl, u3_k rfl, u3_k rfl, u3_k rfl, u3_k rfl, u3_k rfl, u3_k rfl]
  have step : ∀ (x : mV) (j p : Nat), m_u3 (m_u3 (m_u3 x 40 0 (2 * t + j) (x 40 0 (2 * k + j))) 41 0 (2 * t + j) (x 41 0 (2 * k + j))) 42 0 (2 * t + j) (x 42 0 (2 * k + j)) K 0 p = if p = 2 * t + j then x K 0 (2 * k + j) else x K 0 p := by
    intro x j p
    rcases hK with rfl | rfl | rfl <;> simp [m_u3]
  show m_u3 (m_u3 (m_u3 (d_cn w k t 1) 40 0 (2 * t + 1) (d_cn w k t 1 40 0 (2 * k + 1))) 41 0 (2 * t + 1) (d_cn w k t 1 41 0 (2 * k + 1))) 42 0 (2 * t + 1) (d_cn w k t 1 42 0 (2 * k + 1)) K 0 (2 * i + e) = _
  have s1 : ∀ p, d_cn w k t 1 K 0 p = if p = 2 * t + 0 then u K 0 (2 * k + 0) else u K 0 p := by
    intro p
    show m_u3 (m_u3 (m_u3 w 40 0 (2 * t + 0) (w 40 0 (2 * k + 0))) 41 0 (2 * t + 0) (w 41 0 (2 * k + 0))) 42 0 (2 * t + 0) (w 42 0 (2 * k + 0)) K 0 p = _
    rw [step, ew]
  rw [step, s1, s1, if_neg (by omega : ¬ 2 * k + 1 = 2 * t + 0)]
  by_cases hi : i = t
  · subst hi
    rw [if_pos rfl]
    have hee : e = 0 ∨ e = 1 := by omega
    rcases hee with rfl | rfl
    · rw [if_neg (by omega), if_pos rfl]
    · rw [if_pos rfl]
  · rw [if_neg hi, if_neg (by omega), if_neg (by omega)]
theorem tl_a {u : mV} {k K : Nat} (h1 : 33 ≤ K) (h2 : K ≤ 39) : ∀ j i, d_tl u k j K 0 i = if k ≤ i ∧ i < k + j then u K 0 (i + 1) else u K 0 i := by
  intro j
  induction j with
  | zero =>
    intro i
    rw [if_neg (by omega)]
    rfl
  | succ j ih =>
    intro i
    unfold d_tl
    rw [cp_a h1 h2, ih, ih]
    by_cases hi : i = k + j
    · subst hi
      rw [if_pos rfl, if_neg (by omega), if_pos (by omega)]
    · rw [if_neg hi]
      by_cases h : k ≤ i ∧ i < k + j
      · rw [if_pos h, if_pos (by omega)]
      · rw [if_neg h, if_neg (by omega)]
theorem tl_b {u : mV} {k K e : Nat} (h1 : 40 ≤ K) (h2 : K ≤ 42) (he : e < 2) : ∀ j i, d_tl u k j K 0 (2 * i + e) = if k ≤ i ∧ i < k + j then u K 0 (2 * (i + 1) + e) else u K 0 (2 * i + e) := by
  intro j
  induction j with
  | zero =>
    intro i
    rw [if_neg (by omega)]
    rfl
  | succ j ih =>
    intro i
    unfold d_tl
    rw [cp_b h1 h2 he, ih, ih]
    by_cases hi : i = k + j
    · subst hi
      rw [if_pos rfl, if_neg (by omega), if_pos (by omega)]
    · rw [if_neg hi]
      by_cases h : k ≤ i ∧ i < k + j
      · rw [if_pos h, if_pos (by omega)]
      · rw [if_neg h, if_neg (by omega)]
theorem to_a {u : mV} {k r K : Nat} (h1 : 33 ≤ K) (h2 : K ≤ 39) (hk : k ≤ r) (hr : r < 24) (i : Nat) : d_to u k r K 0 i = if i = 24 then u K 0 k else if k ≤ i ∧ i < r then u K 0 (i + 1) else u K 0 i := by
  have hb : Nat.beq K 20 = false := by
    cases e : Nat.beq K 20 with
    | false => rfl
    | true => exact absurd (Nat.eq_of_beq_eq_true e) (by omega)
  unfold d_to
  rw [tl_a h1 h2, u3_k hb, cp_a h1 h2, cp_a h1 h2]
  by_cases h : k ≤ i ∧ i < r
  · rw [if_pos (by omega), if_neg (by omega), if_neg (by omega), if_pos h]
  · rw [if_neg (by omega)]
    by_cases h24 : i = 24
    · rw [if_pos h24, if_pos h24]
    · rw [if_neg h24, if_neg h24, if_neg h]
theorem to_b {u : mV} {k r K e : Nat} (h1 : 40 ≤ K) (h2 : K ≤ 42) (he : e < 2) (hk : k ≤ r) (hr : r < 24) (i : Nat) : d_to u k r K 0 (2 * i + e) = if i = 24 then u K 0 (2 * k + e) else if k ≤ i ∧ i < r then u K 0 (2 * (i + 1) + e) else u K 0 (2 * i + e) := by
  have hb : Nat.beq K 20 = false := by
    cases e : Nat.beq K 20 with
    | false => rfl
    | true => exact absurd (Nat.eq_of_beq_eq_true e) (by omega)
  unfold d_to
  rw [tl_b h1 h2 he, u3_k hb, cp_b h1 h2 he, cp_b h1 h2 he]
  by_cases h : k ≤ i ∧ i < r
  · rw [if_pos (by omega), if_neg (by omega), if_neg (by omega), if_pos h]
  · rw [if_neg (by omega)]
    by_cases h24 : i = 24
    · rw [if_pos h24, if_pos h24]
    · rw [if_neg h24, if_neg h24, if_neg h]
theorem to_o {u : mV} {k r K : Nat} (h1 : ¬ K = 20) (h2 : ¬ (33 ≤ K ∧ K ≤ 42)) : d_to u k r K = u K := by
  have hb : ∀ K', (K' = 20 ∨ (33 ≤ K' ∧ K' ≤ 42)) → Nat.beq K K' = false := by
    intro K' hK'
    cases e : Nat.beq K K' with
    | false => rfl
    | true => exact absurd (Nat.eq_of_beq_eq_true e) (by omega)
  have hall : (Nat.beq K 33 || (Nat.beq K 34 || (Nat.beq K 35 || (Nat.beq K 36 || (Nat.beq K 37 || (Nat.beq K 38 || (Nat.beq K 39 || (Nat.beq K 40 || (Nat.beq K 41 || Nat.beq K 42))))))))) = false := by
    rw [hb 33 (by omega), hb 34 (by omega), hb 35 (by omega), hb 36 (by omega), hb 37 (by omega), hb 38 (by omega), hb 39 (by omega), hb 40 (by omega), hb 41 (by omega), hb 42 (by omega)]
    rfl
  unfold d_to
  rw [tl_k hall, u3_k (hb 20 (by omega)), cp_k hall]
theorem pm_to {n : Nat} {v u v' u' : mV} {q k k' : Nat} (h : P_M n v u q k) (h12 : v' 12 = v 12) (h13 : v' 13 = v 13) (h14 : v' 14 = v 14) (h15 : v' 15 = v 15) (hu : ∀ K, 33 ≤ K → K ≤ 39 → u' K 0 k' = u K 0 k) (hn : ∀ K, 40 ≤ K → K ≤ 42 → ∀ j, j < 2 → u' K 0 (2 * k' + j) = u K 0 (2 * k + j)) : P_M n v' u' q k' := by
  obtain ⟨g0, g1, g2, g3, g4, g5, g6, cnt, gc, gn, gj⟩ := h
  unfold P_M
  rw [h12, h13, h14, h15, hu 33 (by omega) (by omega), hu 34 (by omega) (by omega), hu 35 (by omega) (by omega), hu 36 (by omega) (by omega), hu 37 (by omega) (by omega), hu 38 (by omega) (by omega), hu 39 (by omega) (by omega)]
  refine ⟨g0, g1, g2, g3, g4, g5, g6, cnt, gc, gn, fun j hj => ?_⟩
  rw [hn 40 (by omega) (by omega) j (by omega), hn 41 (by omega) (by omega) j (by omega), hn 42 (by omega) (by omega) j (by omega)]
  exact gj j hj
theorem tk_RR {n : Nat} {v u : mV} {k : Nat} (h : R_R n v u) (hk : k < zz v) : R_R n (c_tk v (gg v) k (zz v - 1)) (d_to u k (zz v - 1)) ∧ P_M n (c_tk v (gg v) k (zz v - 1)) (d_to u k (zz v - 1)) (gg v k) 24 := by
  obtain ⟨hn, hf, hg, hN, hV, hS, hB, ⟨⟨hz, hz24, hzu⟩, hgg, hinj, hM⟩⟩ := h
  have hw : W_C n v := ⟨hf, ⟨hz, hz24⟩, hgg⟩
  have hw1 := wc_tk hw hk
  have ek : ∀ K, (Nat.beq K 2 || Nat.beq K 3) = false → c_tk v (gg v) k (zz v - 1) K = v K := fun K hK => tk_k hK
  have eu : ∀ K, ¬ K = 20 → ¬ (33 ≤ K ∧ K ≤ 42) → d_to u k (zz v - 1) K = u K := fun K h1 h2 => to_o h1 h2
  have ez : zz (c_tk v (gg v) k (zz v - 1)) = zz v - 1 := by
    show ix (c_tk v (gg v) k (zz v - 1) 2 0 1) = _
    rw [tk_2, ix_nI (by omega)]
  have eg : ∀ j, j < 25 → gg (c_tk v (gg v) k (zz v - 1)) j = g_t (gg v) k j := by
    intro j hj
    show ix (c_tk v (gg v) k (zz v - 1) 3 0 j) = _
    have hb : g_t (gg v) k j < 25 := by
      unfold g_t
      split
      · exact (hgg j hj).2
      · split
        · exact (hgg (j + 1) (by omega)).2
        · exact (hgg k (by omega)).2
    rw [tk_3 (fun j hj => (hgg j hj).1) (by omega) hj, ix_nI (by omega)]
  have ea := fun (K : Nat) h1 h2 i => to_a (u := u) (k := k) (r := zz v - 1) (K := K) h1 h2 (by omega) (by omega) i
  have eb := fun (K : Nat) h1 h2 (j : Nat) hj i => to_b (u := u) (k := k) (r := zz v - 1) (K := K) (e := j) h1 h2 hj (by omega) (by omega) i
  refine ⟨⟨hn, hw1.1, (to_20.1).trans hg, fun b hb => pn_of (hN b hb) (fun j => by rw [ek 4 rfl]) (fun K hK => by rw [eu K (by omega) (by omega)]), fun b hb m hm => pv_of (hV b hb m hm) (by rw [ek 5 rfl]) (by rw [ek 6 rfl]) (by rw [ek 7 rfl]) (by rw [eu 22 (by omega) (by omega)]) (by rw [eu 23 (by omega) (by omega)]) (by rw [eu 24 (by omega) (by omega)]), fun b hb => by rw [ek 5 rfl, ek 7 rfl]; exact hS b hb, fun b hb m hm => pb_of (hB b hb m hm) (by rw [ek 9 rfl]) (by rw [ek 10 rfl]) (by rw [ek 11 rfl]) (by rw [eu 25 (by omega) (by omega)]) (by rw [eu 26 (by omega) (by omega)]) (by rw [eu 27 (by omega) (by omega)]) (by rw [eu 28 (by omega) (by omega)]), ?_⟩, ?_⟩
  · refine ⟨⟨hw1.2.1.1, hw1.2.1.2, by rw [ez]; exact to_20.2⟩, hw1.2.2, fun i j hi hj e => ?_, fun i hi => ?_⟩
    · rw [eg i hi, eg j hj] at e
      unfold g_t at e
      have key : ∀ x y, x < 25 → y < 25 → gg v x = gg v y → x = y := hinj
      by_cases h1 : i < k
      · rw [if_pos h1] at e
        by_cases h2 : j < k
        · rw [if_pos h2] at e
          exact key _ _ (by omega) (by omega) e
        · rw [if_neg h2] at e
          by_cases h3 : j < 24
          · rw [if_pos h3] at e
            have := key _ _ (by omega) (by omega) e
            omega
          · rw [if_neg h3] at e
            have := key _ _ (by omega) (by omega) e
            omega
      · rw [if_neg h1] at e
        by_cases h4 : i < 24
        · rw [if_pos h4] at e
          by_cases h2 : j < k
          · rw [if_pos h2] at e
            have := key _ _ (by omega) (by omega) e
            omega
          · rw [if_neg h2] at e
            by_cases h3 : j < 24
            · rw [if_pos h3] at e
              have := key _ _ (by omega) (by omega) e
              omega
            · rw [if_neg h3] at e
              have := key _ _ (by omega) (by omega) e
              omega
        · rw [if_neg h4] at e
          by_cases h2 : j < k
          · rw [if_pos h2] at e
            have := key _ _ (by omega) (by omega) e
            omega
          · rw [if_neg h2] at e
            by_cases h3 : j < 24
            · rw [if_pos h3] at e
              have := key _ _ (by omega) (by omega) e
              omega
            · omega
    · rw [ez] at hi
      rw [eg i (by omega)]
      unfold g_t
      by_cases h1 : i < k
      · rw [if_pos h1]
        exact pm_to (hM i (by omega)) (ek 12 rfl) (ek 13 rfl) (ek 14 rfl) (ek 15 rfl) (fun K a1 a2 => by rw [ea K a1 a2, if_neg (by omega), if_neg (by omega)]) (fun K a1 a2 j hj => by rw [eb K a1 a2 j hj, if_neg (by omega), if_neg (by omega)])
      · rw [if_neg h1, if_pos (by omega)]
        exact pm_to (hM (i + 1) (by omega)) (ek 12 rfl) (ek 13 rfl) (ek 14 rfl) (ek 15 rfl) (fun K a1 a2 => by rw [ea K a1 a2, if_neg (by omega), if_pos (by omega)]) (fun K a1 a2 j hj => by rw [eb K a1 a2 j hj, if_neg (by omega), if_pos (by omega)])
  · exact pm_to (hM k hk) (ek 12 rfl) (ek 13 rfl) (ek 14 rfl) (ek 15 rfl) (fun K a1 a2 => by rw [ea K a1 a2, if_pos rfl]) (fun K a1 a2 j hj => by rw [eb K a1 a2 j hj, if_pos rfl])
theorem rw_zz {n : Nat} {v u : mV} (h : R_R n v u) : rw_ u = zz v := by
  obtain ⟨-, -, -, -, -, -, -, ⟨⟨-, hz24, hzu⟩, -⟩⟩ := h
  unfold rw_
  rw [hzu, ix_nI (by omega)]
/-- a node's own ints change -/
theorem nd_RR {n : Nat} {v u v' u' : mV} {a : Nat} (h : R_R n v u) (ha : a < n) (hv : ∀ k i j, ¬ (k = 4 ∧ i = a ∧ 6 ≤ j) → v' k i j = v k i j) (hu : ∀ k j, ¬ ((k = 21 ∨ k = 29 ∨ k = 30 ∨ k = 31 ∨ k = 32) ∧ j = a) → u' k 0 j = u k 0 j) (hp : P_N n v' u' a) : R_R n v' u' := by
  obtain ⟨hn, hf, hg, hN, hV, hS, hB, hW⟩ := h
  have vk : ∀ k, ¬ k = 4 → v' k = v k := by
    intro k hk
    funext i j
    exact hv k i j (fun z => hk z.1)
  have uk : ∀ k j, ¬ (k = 21 ∨ k = 29 ∨ k = 30 ∨ k = 31 ∨ k = 32) → u' k 0 j = u k 0 j := fun k j hk => hu k j (fun z => hk z.1)
  refine ⟨hn, ⟨by rw [vk 0 (by omega)]; exact hf.1, fun b hb => by rw [hv 4 b 0 (by omega), hv 4 b 1 (by omega)]; exact hf.2 b hb⟩, (uk 20 0 (by omega)).trans hg, fun b hb => ?_, fun b hb m hm => pv_of (hV b hb m hm) (by rw [vk 5 (by omega)]) (by rw [vk 6 (by omega)]) (by rw [vk 7 (by omega)]) (uk 22 _ (by omega)) (uk 23 _ (by omega)) (uk 24 _ (by omega)), fun b hb => by rw [vk 5 (by omega), vk 7 (by omega)]; exact hS b hb, fun b hb m hm => pb_of (hB b hb m hm) (by rw [vk 9 (by omega)]) (by rw [vk 10 (by omega)]) (by rw [vk 11 (by omega)]) (uk 25 _ (by omega)) (uk 26 _ (by omega)) (uk 27 _ (by omega)) (uk 28 _ (by omega)), ?_⟩
  · by_cases hb2 : b = a
    · subst hb2
      exact hp
    · exact pn_of (hN b hb) (fun j => hv 4 b j (by omega)) (fun k _ => hu k b (by omega))
  · obtain ⟨g1, g2, g3, g4⟩ := hW
    have ez : zz v' = zz v := by unfold zz; rw [vk 2 (by omega)]
    have eg : gg v' = gg v := by funext j; unfold gg; rw [vk 3 (by omega)]
    unfold P_W
    rw [ez, eg, vk 2 (by omega), vk 3 (by omega), uk 20 13 (by omega)]
    exact ⟨g1, g2, g3, fun k hk => pm_of (g4 k hk) (fun j => by rw [vk 12 (by omega)]) (fun j _ => by rw [vk 13 (by omega)]) (fun j _ => by rw [vk 14 (by omega)]) (fun j _ => by rw [vk 15 (by omega)]) (fun K h1 h2 => uk K _ (by omega)) (fun K h1 h2 j _ => uk K _ (by omega))⟩
theorem tg_neg {n a : Nat} {x : Int32} (hn : n ≤ 6) (h : x = -1 ∨ tg n a x) : x = -1 ↔ x < 0 := by
  rcases h with rfl | ⟨t, ht, -, rfl⟩
  · exact ⟨fun _ => by decide, fun _ => rfl⟩
  · exact ⟨fun z => absurd z (nI_m1 (by omega)), fun z => absurd z (nI_pos (by omega))⟩
theorem re_RR {n : Nat} {v u : mV} {b q : Nat} (h : R_R n v u) (hb : b < n) (hm : P_M n v u q 24) : R_R n (c_re n v b q) (d_rx n u b) := by
  obtain ⟨⟨e0, hkd⟩, ⟨e1, n1⟩, -, ⟨e3, n3⟩, ⟨e4, n4⟩, e5, -⟩ := hm
  have hn6 := h.1.2
  obtain ⟨hp1, hp2, hp3, ⟨hp4, hp5⟩, hp6⟩ := id (h.2.2.2.1 b hb)
  unfold c_re d_rx
  rw [rw_zz h, ← e0, ← e1, ← e3, ← e4, ← e5]
  rcases hkd with k | k | k
  · rw [if_pos k, if_pos k]
    exact send_RR h hb (Or.inr (Or.inl rfl)) n1 n3 n4
  · have k1 : ¬ v 12 q 0 = 1 := by rw [k]; decide
    have k3 : ¬ v 12 q 0 = 3 := by rw [k]; decide
    rw [if_neg k1, if_pos k, if_neg k1, if_neg k3]
    by_cases ho : nI b = v 12 q 3
    · rw [if_pos ho, if_pos ho]
      unfold c_ta
      rw [← hp4, ← hp3]
      by_cases ht : v 4 b 9 = -1
      · rw [if_pos ht, if_pos ((tg_neg hn6 hp5).mp ht)]
        exact h
      · rw [if_neg ht, if_neg (fun z => ht ((tg_neg hn6 hp5).mpr z))]
        by_cases hx : v 12 q 5 = v 4 b 8
        · rw [if_pos hx, if_pos hx.symm]
          refine nd_RR h hb (fun k i j hk => u3_n (by omega)) (fun k j hk => u3_n (by omega)) ?_
          have w1 : ∀ j, ¬ j = 10 → m_u3 v 4 b 10 1 4 b j = v 4 b j := fun j hj => u3_n (by omega)
          have w2 : ∀ K, ¬ K = 32 → m_u3 u 32 0 b 1 K 0 b = u K 0 b := fun K hK => u3_n (by omega)
          unfold P_N
          rw [w1 6 (by omega), w1 7 (by omega), w1 8 (by omega), w1 9 (by omega), w2 21 (by omega), w2 29 (by omega), w2 30 (by omega), w2 31 (by omega), u3_s, u3_s]
          exact ⟨hp1, hp2, hp3, ⟨hp4, hp5⟩, rfl, Or.inr rfl⟩
        · rw [if_neg hx, if_neg (fun z => hx z.symm)]
          exact h
    · rw [if_neg ho, if_neg ho]
      exact send_RR h hb (Or.inr (Or.inl rfl)) n3 n3 n4
  · have k1 : ¬ v 12 q 0 = 1 := by rw [k]; decide
    have k2 : ¬ v 12 q 0 = 2 := by rw [k]; decide
    rw [if_neg k1, if_neg k2, if_neg k1, if_pos k]
    exact send_RR h hb (Or.inl rfl) n4 n3 n4
theorem arr_RR {n : Nat} {v u : mV} {k : Nat} (h : R_R n v u) (hk : k < zz v) : R_R n (c_arr n v k) (d_arr n u k) := by
  obtain ⟨h1, hm⟩ := tk_RR h hk
  have hn6 := h.1.2
  have hzz := rw_zz h
  unfold c_arr d_arr d_rs
  rw [hzz]
  have e12 : c_tk v (gg v) k (zz v - 1) 12 = v 12 := tk_k rfl
  have e4 : c_tk v (gg v) k (zz v - 1) 4 = v 4 := tk_k rfl
  have hb35 : d_to u k (zz v - 1) 35 0 24 = v 12 (gg v k) 2 := by rw [← e12]; exact hm.2.2.1.1.symm
  have hb39 : d_to u k (zz v - 1) 39 0 24 = v 12 (gg v k) 6 := by rw [← e12]; exact hm.2.2.2.2.2.2.1.symm
  have hbn : ix (v 12 (gg v k) 2) < n := by rw [← e12]; exact (nd_ix hn6 hm.2.2.1.2).2
  rw [hb35, hb39]
  have hp := (h1.2.2.2.1 _ hbn).1
  rw [e4] at hp
  generalize hbb : ix (v 12 (gg v k) 2) = b at *
  generalize hD : d_to u k (zz v - 1) = D at *
  by_cases hu : v 4 b 6 = 0
  · have hd : ¬ D 21 0 b = 0 := by
      rcases hp with ⟨z, -⟩ | ⟨-, z⟩
      · rw [hu] at z
        exact absurd z (by decide)
      · rw [z]
        decide
    rw [if_pos hu, if_neg hd]
    exact h1
  · have hd : D 21 0 b = 0 := by
      rcases hp with ⟨-, z⟩ | ⟨z, -⟩
      · exact z
      · exact absurd z hu
    rw [if_neg hu, if_pos hd]
    generalize hT : c_tk v (gg v) k (zz v - 1) = T at *
    have hm' := hm
    obtain ⟨g0, g1, g2, g3, g4, g5, g6, cnt, gc, gn, gj⟩ := hm
    have hcnt : ix (v 12 (gg v k) 6) = cnt := by rw [← e12, gn, ix_nI (by omega)]
    rw [hcnt]
    have h2 := hN_RR (q := gg v k) (cnt := cnt) h1 hbn (fun j hj => gj j hj) cnt (Nat.le_refl _)
    refine re_RR h2 hbn (pm_to hm' (hN_k rfl) (hN_k rfl) (hN_k rfl) (hN_k rfl) (fun K a1 a2 => ?_) (fun K a1 a2 j hj => ?_))
    · rw [dhN_k (by
        have hb : ∀ K', K' < 33 → Nat.beq K K' = false := fun K' hK' => by
          cases e : Nat.beq K K' with
          | false => rfl
          | true => exact absurd (Nat.eq_of_beq_eq_true e) (by omega)
        rw [hb 22 (by omega), hb 23 (by omega), hb 24 (by omega), hb 25 (by omega), hb 26 (by omega), hb 27 (by omega), hb 28 (by omega)]; rfl)]
    · rw [dhN_k (by
        have hb : ∀ K', K' < 33 → Nat.beq K K' = false := fun K' hK' => by
          cases e : Nat.beq K K' with
          | false => rfl
          | true => exact absurd (Nat.eq_of_beq_eq_true e) (by omega)
        rw [hb 22 (by omega), hb 23 (by omega), hb 24 (by omega), hb 25 (by omega), hb 26 (by omega), hb 27 (by omega), hb 28 (by omega)]; rfl)]
