theorem tm_RR {n : Nat} {v u : mV} {a m : Nat} {x : Int32} (h : R_R n v u) (ha : a < n) (hm : m < n) (hne : ¬ m = a) : R_R n (m_u3 v 7 a m x) (m_u3 u 24 0 (6 * a + m) x) := by
  obtain ⟨hn, hf, hg, hN, hV, hS, hB, hW⟩ := h
  refine ⟨hn, fn_u3 hf rfl rfl, fm_u3 hg rfl, fun b hb => pn_of (hN b hb) (fun j => by rw [u3_k (k' := 4) rfl]) (fun k hk => u3_n (by omega)), fun b hb q hq => ?_, fun b hb => ?_, fun b hb q hq => pb_of (hB b hb q hq) (by rw [u3_k (k' := 9) rfl]) (by rw [u3_k (k' := 10) rfl]) (by rw [u3_k (k' := 11) rfl]) (by rw [u3_k (k' := 25) rfl]) (by rw [u3_k (k' := 26) rfl]) (by rw [u3_k (k' := 27) rfl]) (by rw [u3_k (k' := 28) rfl]), pw_of hW (u3_k rfl) (u3_k rfl) (u3_k rfl) (u3_k rfl) (u3_k rfl) (u3_k rfl) (u3_k rfl) (fun K h1 h2 => ?_)⟩
  · by_cases he : b = a ∧ q = m
    · obtain ⟨rfl, rfl⟩ := he
      obtain ⟨g1, g2, g3⟩ := hV b hb q hq
      unfold P_V
      rw [u3_k (k' := 5) rfl, u3_k (k' := 6) rfl, u3_s, u3_k (k' := 22) rfl, u3_k (k' := 23) rfl, u3_s]
      exact ⟨g1, g2, rfl⟩
    · exact pv_of (hV b hb q hq) (by rw [u3_k (k' := 5) rfl]) (by rw [u3_k (k' := 6) rfl]) (u3_n (by omega)) (by rw [u3_k (k' := 22) rfl]) (by rw [u3_k (k' := 23) rfl]) (u3_n (by omega))
  · rw [u3_k (k' := 5) rfl, u3_n (by omega)]
    exact hS b hb
  · funext i j
    exact u3_n (by omega)
theorem ag_RR {n : Nat} {v u : mV} {a : Nat} (h : R_R n v u) (ha : a < n) : ∀ k, k ≤ n → R_R n (c_ag v a k) (d_ag u a k) := by
  intro k
  induction k with
  | zero => exact fun _ => h
  | succ k ih =>
    intro hk
    have h1 := ih (by omega)
    have hn6 := h.1.2
    show R_R n (c_ag1 (c_ag v a k) a k) (d_ag1 (d_ag u a k) a k)
    generalize c_ag v a k = x at *
    generalize d_ag u a k = y at *
    obtain ⟨⟨e5, s5⟩, e6, e7⟩ := h1.2.2.2.2.1 a ha k (by omega)
    unfold c_ag1 d_ag1
    by_cases he : nI k = nI a
    · have hka : k = a := (nI_inj' (by omega) (by omega)).mp he
      subst hka
      rw [if_pos he, if_neg (by rw [(h1.2.2.2.2.2.1 k ha).1]; decide)]
      exact h1
    · have hka : ¬ k = a := fun z => he (by rw [z])
      rw [if_neg he, ← e5, ← e6, ← e7]
      by_cases h5 : x 5 a k = 1
      · rw [if_pos h5, if_pos h5]
        by_cases h7 : x 7 a k + 1 = 3
        · rw [if_pos h7, if_pos h7]
          refine ad_RR h1 ha (by omega) (Or.inr (Or.inr rfl)) (fun z => absurd z hka) (uv_adopt (fun k' i' j' hk' => u3_n (by omega))) (uu_ann (fun k' j' hk' => ?_) u3_s ?_ ?_)
          · rw [u3_n (by omega), u3_n (by omega), u3_n (by omega)]
          · rw [u3_k (k' := 23) rfl, u3_k (k' := 23) rfl, u3_k (k' := 23) rfl, e6]
          · rw [u3_k (k' := 24) rfl, u3_s]
        · rw [if_neg h7, if_neg h7]
          exact tm_RR h1 ha (by omega) hka
      · rw [if_neg h5, if_neg h5]
        exact h1
theorem ss_RR {n : Nat} {v u : mV} {a : Nat} {o : Option Nat} (h : R_R n v u) (ha : a < n) (ho : v 4 a 9 = oI o) (hot : ∀ t, o = some t → t < n ∧ ¬ t = a) : R_R n (c_ss v a o) (d_db u a o) := by
  cases o with
  | none => exact h
  | some t =>
    obtain ⟨ht, hta⟩ := hot t rfl
    have hn6 := h.1.2
    obtain ⟨-, -, -, -, ⟨e10, b10⟩⟩ := id (h.2.2.2.1 a ha)
    obtain ⟨⟨e5, s5⟩, e6, e7⟩ := h.2.2.2.2.1 a ha t ht
    have hw : c_wt v a = if v 4 a 10 = 0 then 1 else 0 := by
      unfold c_wt
      rw [if_neg (by rw [ho]; exact nI_m1 (by omega))]
    unfold c_ss d_db
    dsimp only
    rw [hw, ← e10, ← e5, ← e6]
    by_cases h10 : v 4 a 10 = 0
    · rw [if_pos h10, if_pos h10, if_neg (by decide)]
      by_cases h5 : v 5 a t = 0
      · rw [if_pos h5, if_pos h5]
        refine ad_RR h ha ht (Or.inr (Or.inl rfl)) (fun z => absurd z hta) (uv_adopt (fun _ _ _ _ => rfl)) (uu_ann (fun k' j' hk' => ?_) ?_ ?_ u3_s)
        · rw [u3_n (by omega), u3_n (by omega)]
        · rw [u3_k (k' := 22) rfl, u3_s]
        · rw [u3_k (k' := 23) rfl, u3_k (k' := 23) rfl, e6]
      · rw [if_neg h5, if_neg h5]
        exact h
    · rw [if_neg h10, if_neg h10, if_pos rfl]
      exact h
theorem nx_mod : ∀ n, n < 7 → 0 < n → ∀ x, x < 13 → nx n (x % n) = (x + 1) % n := by decide +kernel
theorem nt_eq {n : Nat} {v u : mV} {a t : Nat} (h : R_R n v u) (ha : a < n) (ht : t < n) : ∀ r, r ≤ n → c_nt n v a r ((t + (n - r)) % n) = d_nx n u a t r := by
  have hn6 := h.1.2
  have hn0 : 0 < n := by omega
  intro r
  induction r with
  | zero => exact fun _ => rfl
  | succ r ih =>
    intro hr
    have e : nx n ((t + (n - (r + 1))) % n) = (t + (n - r)) % n := by
      rw [nx_mod n (by omega) hn0 _ (by omega), show t + (n - (r + 1)) + 1 = t + (n - r) by omega]
    unfold c_nt d_nx
    rw [e, ih (by omega)]
    have hm : (t + (n - r)) % n < n := Nat.mod_lt _ hn0
    rw [(h.2.2.2.2.1 a ha _ hm).1.1]
theorem nt_ne {n : Nat} {v : mV} {a : Nat} (hn : 0 < n) : ∀ r t s, c_nt n v a r t = some s → s < n ∧ ¬ nI s = nI a := by
  intro r
  induction r with
  | zero => intro t s h; cases h
  | succ r ih =>
    intro t s h
    unfold c_nt at h
    split at h
    · exact ih _ _ h
    · split at h
      · exact ih _ _ h
      · rename_i h1 h2
        cases h
        exact ⟨nx_lt hn, h1⟩
theorem rO_tg {n a : Nat} {x : Int32} (hn : n ≤ 6) (h : x = -1 ∨ tg n a x) : x = oI (rO x) ∧ ∀ t, rO x = some t → t < n ∧ ¬ t = a := by
  rcases h with rfl | ⟨t, ht, hta, rfl⟩
  · exact ⟨rfl, fun t h => by cases h⟩
  · have e : rO (nI t) = some t := by
      unfold rO
      rw [if_neg (nI_m1 (by omega)), ix_nI (by omega)]
    rw [e]
    exact ⟨rfl, fun s h => by cases h; exact ⟨ht, hta⟩⟩
theorem m2_RR {n : Nat} {v u : mV} {a : Nat} (h : R_R n v u) (ha : a < n) : R_R n (c_m2 n v a) (d_u2 n u a) ∧ c_mo n v a = d_mo n u a := by
  have hn6 := h.1.2
  obtain ⟨-, ⟨e7, n7⟩, -, ⟨e9, n9⟩, -⟩ := id (h.2.2.2.1 a ha)
  obtain ⟨r1, r2⟩ := rO_tg hn6 n9
  have h1 := ag_RR h ha n (Nat.le_refl _)
  have h2 : R_R n (c_m2 n v a) (d_u2 n u a) := by
    unfold c_m2 d_u2
    rw [← e9]
    exact ss_RR h1 ha ((congrFun (congrFun (ag_k rfl) a) 9).trans r1) r2
  refine ⟨h2, ?_⟩
  unfold c_mo d_mo
  rw [← e7]
  obtain ⟨-, ht⟩ := nd_ix hn6 n7
  have e := nt_eq h2 ha ht n (Nat.le_refl _)
  rw [Nat.sub_self, Nat.add_zero, Nat.mod_eq_of_lt ht] at e
  exact e
theorem mp_RR {n : Nat} {v u : mV} {a : Nat} (h : R_R n v u) (ha : a < n) : R_R n (c_mp n v a) (d_pd n u a) := by
  have hn6 := h.1.2
  have hn0 : 0 < n := by omega
  obtain ⟨h2, ho⟩ := m2_RR h ha
  have hs : ∀ s, c_mo n v a = some s → s < n ∧ ¬ s = a := by
    intro s hs
    have := nt_ne hn0 n _ s hs
    exact ⟨this.1, fun z => this.2 (by rw [z])⟩
  have ezz : rw_ u = zz (c_m2 n v a) := by
    rw [rw_zz h]
    show ix (v 2 0 1) = ix (c_m2 n v a 2 0 1)
    rw [m2_k (k := 2) rfl]
  unfold c_mp d_pd c_m3
  rw [← ho, ezz]
  obtain ⟨p1, p2, p3, p4, p5⟩ := id (h2.2.2.2.1 a ha)
  generalize c_m2 n v a = x at *
  generalize d_u2 n u a = y at *
  generalize c_mo n v a = o at *
  unfold c_ct
  cases o with
  | none =>
    have hm1 : oI none = -1 := rfl
    rw [if_pos hm1, if_pos hm1, if_pos (by decide : oI none < 0)]
    have w1 : ∀ j, ¬ j = 9 → ¬ j = 10 → m_u3 (m_u3 x 4 a 9 (oI none)) 4 a 10 0 4 a j = x 4 a j := fun j h1 h2 => by rw [u3_n (by omega), u3_n (by omega)]
    have w2 : ∀ K, ¬ K = 31 → ¬ K = 32 → m_u3 (m_u3 y 31 0 a (oI none)) 32 0 a 0 K 0 a = y K 0 a := fun K h1 h2 => by rw [u3_n (by omega), u3_n (by omega)]
    refine nd_RR h2 ha (fun k i j hk => by rw [u3_n (by omega), u3_n (by omega)]) (fun k j hk => by rw [u3_n (by omega), u3_n (by omega)]) ?_
    unfold P_N
    rw [w1 6 (by omega) (by omega), w1 7 (by omega) (by omega), w1 8 (by omega) (by omega), w2 21 (by omega) (by omega), w2 29 (by omega) (by omega), w2 30 (by omega) (by omega), u3_s, u3_s, u3_n (by omega), u3_s, u3_n (by omega), u3_s]
    exact ⟨p1, p2, p3, ⟨rfl, Or.inl rfl⟩, rfl, Or.inl rfl⟩
  | some s =>
    obtain ⟨hsn, hsa⟩ := hs s rfl
    have hne : ¬ oI (some s) = -1 := nI_m1 (by omega)
    have hng : ¬ oI (some s) < 0 := nI_pos (by omega)
    rw [if_neg hne, if_neg hne, if_neg hng]
    have h3 : R_R n (m_u3 (m_u3 (m_u3 (m_u3 x 4 a 9 (oI (some s))) 4 a 10 0) 4 a 7 (oI (some s))) 4 a 8 (x 4 a 8 + 1)) (d_u4 y a (some s)) := by
      unfold d_u4
      refine nd_RR h2 ha (fun k i j hk => by rw [u3_n (by omega), u3_n (by omega), u3_n (by omega), u3_n (by omega)]) (fun k j hk => by rw [u3_n (by omega), u3_n (by omega), u3_n (by omega), u3_n (by omega)]) ?_
      have a6 : m_u3 (m_u3 (m_u3 (m_u3 x 4 a 9 (oI (some s))) 4 a 10 0) 4 a 7 (oI (some s))) 4 a 8 (x 4 a 8 + 1) 4 a 6 = x 4 a 6 := by rw [u3_n (by omega), u3_n (by omega), u3_n (by omega), u3_n (by omega)]
      have a7 : m_u3 (m_u3 (m_u3 (m_u3 x 4 a 9 (oI (some s))) 4 a 10 0) 4 a 7 (oI (some s))) 4 a 8 (x 4 a 8 + 1) 4 a 7 = oI (some s) := by rw [u3_n (by omega), u3_s]
      have a9 : m_u3 (m_u3 (m_u3 (m_u3 x 4 a 9 (oI (some s))) 4 a 10 0) 4 a 7 (oI (some s))) 4 a 8 (x 4 a 8 + 1) 4 a 9 = oI (some s) := by rw [u3_n (by omega), u3_n (by omega), u3_n (by omega), u3_s]
      have a10 : m_u3 (m_u3 (m_u3 (m_u3 x 4 a 9 (oI (some s))) 4 a 10 0) 4 a 7 (oI (some s))) 4 a 8 (x 4 a 8 + 1) 4 a 10 = 0 := by rw [u3_n (by omega), u3_n (by omega), u3_s]
      have b21 : m_u3 (m_u3 (m_u3 (m_u3 y 31 0 a (oI (some s))) 32 0 a 0) 29 0 a (oI (some s))) 30 0 a (y 30 0 a + 1) 21 0 a = y 21 0 a := by rw [u3_n (by omega), u3_n (by omega), u3_n (by omega), u3_n (by omega)]
      have b29 : m_u3 (m_u3 (m_u3 (m_u3 y 31 0 a (oI (some s))) 32 0 a 0) 29 0 a (oI (some s))) 30 0 a (y 30 0 a + 1) 29 0 a = oI (some s) := by rw [u3_n (by omega), u3_s]
      have b31 : m_u3 (m_u3 (m_u3 (m_u3 y 31 0 a (oI (some s))) 32 0 a 0) 29 0 a (oI (some s))) 30 0 a (y 30 0 a + 1) 31 0 a = oI (some s) := by rw [u3_n (by omega), u3_n (by omega), u3_n (by omega), u3_s]
      have b32 : m_u3 (m_u3 (m_u3 (m_u3 y 31 0 a (oI (some s))) 32 0 a 0) 29 0 a (oI (some s))) 30 0 a (y 30 0 a + 1) 32 0 a = 0 := by rw [u3_n (by omega), u3_n (by omega), u3_s]
      unfold P_N
      rw [a6, a7, a9, a10, b21, b29, b31, b32, u3_s, u3_s, p3]
      exact ⟨p1, ⟨rfl, s, hsn, rfl⟩, rfl, ⟨rfl, Or.inr ⟨s, hsn, hsa, rfl⟩⟩, rfl, Or.inl rfl⟩
    have ez : zz (m_u3 (m_u3 (m_u3 (m_u3 x 4 a 9 (oI (some s))) 4 a 10 0) 4 a 7 (oI (some s))) 4 a 8 (x 4 a 8 + 1)) = zz x := by
      unfold zz
      rw [u3_k (k' := 2) rfl, u3_k (k' := 2) rfl, u3_k (k' := 2) rfl, u3_k (k' := 2) rfl]
    have h4 := send_RR (kd := 1) (to := oI (some s)) (og := nI a) (tg := oI (some s)) (pn := x 4 a 8 + 1) h3 ha (Or.inl rfl) ⟨s, hsn, rfl⟩ ⟨a, ha, rfl⟩ ⟨s, hsn, rfl⟩
    rw [u3_s, ← p3, ← ez]
    exact h4
theorem hl_stop {n a t j : Nat} {u : mV} (h : 2 ≤ nI (d_hl n u a t j).1) : ∀ i, d_hl n u a t (j + i) = d_hl n u a t j := by
  intro i
  induction i with
  | zero => rfl
  | succ i ih =>
    show (if 2 ≤ nI (d_hl n u a t (j + i)).1 then d_hl n u a t (j + i) else _) = _
    rw [ih, if_pos h]
theorem mod_ne : ∀ n, n < 7 → ∀ t, t < n → ∀ k, k < n → 0 < k → ¬ (t + k) % n = t := by decide +kernel
theorem ask_RR {n : Nat} {u : mV} {a t : Nat} (hn6 : n ≤ 6) (ha : a < n) (ht : t < n) : ∀ r j v, r + j = n - 1 → R_R n v (d_hl n u a t j).2 → v 4 a 9 = nI t → (c_ask n a r ((t + j) % n) (d_hl n u a t j).1 v).1 = (d_hl n u a t (n - 1)).1 ∧ R_R n (c_ask n a r ((t + j) % n) (d_hl n u a t j).1 v).2 (d_hl n u a t (n - 1)).2 := by
  have hn0 : 0 < n := by omega
  intro r
  induction r with
  | zero =>
    intro j v hj h hv
    rw [show n - 1 = j by omega]
    exact ⟨rfl, h⟩
  | succ r ih =>
    intro j v hj h hv
    unfold c_ask
    by_cases h2 : 2 ≤ nI (d_hl n u a t j).1
    · rw [if_pos h2, show n - 1 = j + (r + 1) by omega, hl_stop h2]
      exact ⟨rfl, h⟩
    · rw [if_neg h2]
      have e : nx n ((t + j) % n) = (t + (1 + j)) % n := by
        rw [nx_mod n (by omega) hn0 _ (by omega), show t + j + 1 = t + (1 + j) by omega]
      have e' : (t + (1 + j)) % n = (t + (j + 1)) % n := by rw [show 1 + j = j + 1 by omega]
      have hm : (t + (1 + j)) % n < n := Nat.mod_lt _ hn0
      have hmt : ¬ nI ((t + (1 + j)) % n) = v 4 a 9 := by
        rw [hv]
        intro z
        exact mod_ne n (by omega) t ht (1 + j) (by omega) (by omega) ((nI_inj' (by omega) (by omega)).mp z)
      have e5 := (h.2.2.2.2.1 a ha _ hm).1.1
      have e8 := (h.2.2.2.1 a ha).2.2.1
      have hstep : d_hl n u a t (j + 1) = if nI ((t + (1 + j)) % n) = nI a then d_hl n u a t j else if (d_hl n u a t j).2 22 0 (6 * a + (t + (1 + j)) % n) = 2 then d_hl n u a t j else ((d_hl n u a t j).1 + 1, d_send n (d_hl n u a t j).2 a 3 (nI ((t + (1 + j)) % n)) (nI a) (nI t) ((d_hl n u a t j).2 30 0 a) (rw_ (d_hl n u a t j).2)) := by
        show (if 2 ≤ nI (d_hl n u a t j).1 then d_hl n u a t j else _) = _
        rw [if_neg h2]
      rw [e]
      unfold c_ma
      rw [if_neg hmt, e5]
      by_cases h3 : nI ((t + (1 + j)) % n) = nI a
      · rw [if_pos h3, if_pos rfl]
        rw [if_pos h3] at hstep
        have := ih (j + 1) v (by omega) (by rw [hstep]; exact h) hv
        rw [hstep] at this
        rw [e']
        exact this
      · rw [if_neg h3]
        rw [if_neg h3] at hstep
        by_cases h4 : (d_hl n u a t j).2 22 0 (6 * a + (t + (1 + j)) % n) = 2
        · rw [if_pos h4, if_pos rfl]
          rw [if_pos h4] at hstep
          have := ih (j + 1) v (by omega) (by rw [hstep]; exact h) hv
          rw [hstep] at this
          rw [e']
          exact this
        · rw [if_neg h4, if_neg (by decide)]
          rw [if_neg h4, rw_zz h, ← e8] at hstep
          have hs := send_RR (kd := 3) (to := nI ((t + (1 + j)) % n)) (og := nI a) (tg := nI t) (pn := v 4 a 8) h ha (Or.inr (Or.inr rfl)) ⟨_, hm, rfl⟩ ⟨a, ha, rfl⟩ ⟨t, ht, rfl⟩
          have := ih (j + 1) (c_send n v a 3 (nI ((t + (1 + j)) % n)) (nI a) (nI t) (v 4 a 8) (gg v (zz v)) (zz v)) (by omega) (by rw [hstep]; exact hs) ((congrFun (congrFun ((send_k (k := 4) rfl).trans (pf_k rfl)) a) 9).trans hv)
          rw [hstep] at this
          rw [hv, e']
          rw [e'] at this
          exact this
