/-! THE RELATION: what the walks ask of it, a round, and the pairs of calls that the law makes -/
theorem IC_RR {n : Nat} {v u : mV} (h : R_R n v u) : I_C n v := by
  have hn6 := h.1.2
  obtain ⟨-, hf, -, hN, -, -, -, hW⟩ := id h
  obtain ⟨g1, g2, g3, g4⟩ := id hW
  refine ⟨⟨hf, ⟨g1.1, g1.2.1⟩, g2⟩, fun k hk => ?_, g3, fun a ha => ?_⟩
  · obtain ⟨⟨-, e0⟩, -, ⟨-, n2⟩, -, -, -, -, cnt, hc, ec, hj⟩ := g4 k hk
    refine ⟨e0, nd_ix hn6 n2, ?_, ?_⟩
    · rw [ec, ix_nI (by omega)]
      exact ⟨rfl, hc⟩
    · intro j hj'
      rw [ec, ix_nI (by omega)] at hj'
      exact nd_ix hn6 (hj j hj').1.2
  · obtain ⟨-, ⟨-, n7⟩, -, ⟨-, n9⟩, -⟩ := hN a ha
    exact ⟨nd_ix hn6 n7, n9.imp id (fun ⟨t, ht, _, e⟩ => ⟨t, ht, e⟩)⟩
theorem m24_RR {n : Nat} {v u : mV} {k : Nat} (h : R_R n v u) (hk : k < zz v) : M_24 n (d_to u k (rw_ u - 1)) := by
  have hn6 := h.1.2
  rw [rw_zz h]
  obtain ⟨-, ⟨-, -, ⟨e2, n2⟩, -, -, -, e6, cnt, hc, ec, hj⟩⟩ := tk_RR h hk
  generalize d_to u k (zz v - 1) = y at *
  refine ⟨?_, ?_, ?_⟩
  · rw [← e2]
    exact nd_ix hn6 n2
  · rw [← e6, ec, ix_nI (by omega)]
    exact ⟨rfl, hc⟩
  · intro j hj'
    rw [← e6, ec, ix_nI (by omega)] at hj'
    obtain ⟨⟨e, m⟩, -⟩ := hj j hj'
    have e' : y 40 0 (48 + j) = _ := e.symm
    rw [e']
    exact nd_ix hn6 m
theorem WM_RR {n : Nat} {v u : mV} (h : R_R n v u) : W_M n u := by
  have e := rw_zz h
  obtain ⟨⟨g1, g2, g3⟩, -⟩ := h.2.2.2.2.2.2.2
  refine ⟨h.2.2.1, ?_, ?_⟩
  · rw [e]
    exact g3
  · rw [e]
    exact g2
theorem NM_RR {n : Nat} {v u : mV} {a : Nat} (h : R_R n v u) (ha : a < n) : N_M n u a := by
  have hn6 := h.1.2
  obtain ⟨-, ⟨e7, n7⟩, -, ⟨e9, n9⟩, -⟩ := h.2.2.2.1 a ha
  unfold N_M
  rw [← e7, ← e9]
  exact ⟨nd_ix hn6 n7, n9.imp id (fun ⟨t, ht, _, e⟩ => ⟨t, ht, e⟩)⟩
theorem IM_RR {n : Nat} {v u : mV} (h : R_R n v u) : I_M n u := by
  refine ⟨WM_RR h, fun hk => m24_RR h ?_, fun a ha => NM_RR h ha⟩
  rw [← rw_zz h]
  exact hk
theorem wt_RR {n : Nat} {v u : mV} {a : Nat} (h : R_R n v u) (ha : a < n) (hu : u 21 0 a = 0) : d_wt u a = c_wt v a := by
  have hn6 := h.1.2
  obtain ⟨-, -, -, ⟨e9, n9⟩, ⟨e10, -⟩⟩ := h.2.2.2.1 a ha
  have hx := tg_neg hn6 n9
  unfold d_wt c_wt
  rw [if_pos hu, ← e9, ← e10]
  by_cases h9 : v 4 a 9 = -1
  · rw [if_pos h9, if_pos (hx.mp h9)]
  · rw [if_neg h9, if_neg (fun z => h9 (hx.mpr z))]
theorem help_RR {n : Nat} {v u : mV} {a : Nat} (h : R_R n v u) (ha : a < n) (hw : ¬ c_wt v a = 0) : (c_ask n a (n - 1) (ix (v 4 a 9)) 0 v).1 = (d_hl n u a (ix (u 31 0 a)) (n - 1)).1 ∧ R_R n (c_ask n a (n - 1) (ix (v 4 a 9)) 0 v).2 (d_hl n u a (ix (u 31 0 a)) (n - 1)).2 ∧ v 4 a 9 = nI (ix (v 4 a 9)) ∧ ix (v 4 a 9) < n := by
  have hn6 := h.1.2
  obtain ⟨-, -, -, ⟨e9, n9⟩, -⟩ := h.2.2.2.1 a ha
  rw [← e9]
  rcases n9 with n9 | ⟨t, ht, hta, e⟩
  · refine absurd ?_ hw
    unfold c_wt
    rw [if_pos n9]
  · rw [e, ix_nI (by omega)]
    have hk := ask_RR (u := u) hn6 ha ht (n - 1) 0 v (by omega) h e
    rw [Nat.add_zero, Nat.mod_eq_of_lt ht] at hk
    exact ⟨hk.1, hk.2, rfl, ht⟩
theorem pp_RR {n : Nat} {v u : mV} {a : Nat} (h : R_R n v u) (ha : a < n) : R_R n (if v 4 a 6 = 0 then v else c_mp n v a) (d_pp n u a) := by
  unfold d_pp
  rcases (h.2.2.2.1 a ha).1 with ⟨hv, hu⟩ | ⟨hv, hu⟩
  · rw [if_pos hu, if_neg (by rw [hv]; decide)]
    exact mp_RR h ha
  · rw [if_pos hv, if_neg (by rw [hu]; decide)]
    exact h
theorem wt_01 {v : mV} {a : Nat} : c_wt v a = 0 ∨ c_wt v a = 1 := by
  unfold c_wt
  split
  · exact Or.inl rfl
  · split
    · exact Or.inr rfl
    · exact Or.inl rfl
theorem hh_RR {n : Nat} {v u : mV} {a : Nat} (h : R_R n v u) (ha : a < n) : R_R n (if v 4 a 6 = 0 then v else if c_wt v a = 0 then v else (c_ask n a (n - 1) (ix (v 4 a 9)) 0 v).2) (d_hh n u a) := by
  unfold d_hh
  rcases (h.2.2.2.1 a ha).1 with ⟨hv, hu⟩ | ⟨hv, hu⟩
  · rw [if_neg (by rw [hv]; decide), wt_RR h ha hu]
    rcases wt_01 (v := v) (a := a) with hw | hw
    · rw [hw, if_pos rfl, if_neg (by decide)]
      exact h
    · have := (help_RR h ha (by rw [hw]; decide)).2.1
      rw [hw, if_neg (by decide), if_pos rfl]
      exact this
  · have hw : d_wt u a = 0 := by
      unfold d_wt
      rw [if_neg (by rw [hu]; decide)]
    rw [if_pos hv, hw, if_neg (by decide)]
    exact h
theorem KC_RR {n : Nat} : K_C n (fun v => ∃ u, R_R n v u) := by
  refine ⟨fun v ⟨u, h⟩ => IC_RR h, fun v ⟨u, h⟩ hz => ⟨_, arr_RR h hz⟩, fun v a ⟨u, h⟩ ha _ => ⟨_, mp_RR h ha⟩, fun v a ⟨u, h⟩ ha _ hw => ⟨_, (help_RR h ha hw).2.1⟩⟩
theorem KM_RR {n : Nat} : K_M n (fun u => ∃ v, R_R n v u) := by
  refine ⟨fun u ⟨v, h⟩ => IM_RR h, fun u ⟨v, h⟩ hz => ⟨_, arr_RR h (by rw [← rw_zz h]; exact hz)⟩, fun u a ⟨v, h⟩ ha => ⟨_, pp_RR h ha⟩, fun u a ⟨v, h⟩ ha => ⟨_, hh_RR h ha⟩⟩
theorem aa_RR {n : Nat} : ∀ r v u, R_R n v u → R_R n (c_aa n r v) (d_aa n r u) ∧ c_an n r v = d_an n r u := by
  intro r
  induction r with
  | zero => exact fun v u h => ⟨h, rfl⟩
  | succ r ih =>
    intro v u h
    have e : u 20 0 13 = v 2 0 1 := h.2.2.2.2.2.2.2.1.2.2.trans h.2.2.2.2.2.2.2.1.1.symm
    unfold c_aa d_aa c_an d_an
    rw [e]
    by_cases hz : v 2 0 1 ≤ 0
    · rw [if_pos hz, if_pos hz, if_pos hz, if_pos hz]
      exact ⟨h, rfl⟩
    · rw [if_neg hz, if_neg hz, if_neg hz, if_neg hz]
      have := ih _ _ (arr_RR (k := 0) h (zz_pos (IC_RR h).1 hz))
      exact ⟨this.1, by rw [this.2]⟩
theorem q1_RR {n : Nat} {v u : mV} (h : R_R n v u) : ∀ k, k ≤ n → R_R n (c_q1 n v k) (d_q1 n u k) := by
  intro k
  induction k with
  | zero => exact fun _ => h
  | succ k ih => exact fun hk => pp_RR (ih (by omega)) (by omega)
theorem q2_RR {n : Nat} {v u : mV} (h : R_R n v u) : ∀ k, k ≤ n → R_R n (c_q2 n v k) (d_q2 n u k) := by
  intro k
  induction k with
  | zero => exact fun _ => h
  | succ k ih => exact fun hk => hh_RR (ih (by omega)) (by omega)
theorem rv_RR {n : Nat} {v u : mV} (h : R_R n v u) : R_R n (c_rv n v) (d_rv n u) ∧ c_ry n v = d_ry n u := by
  have h1 := q1_RR h n (Nat.le_refl _)
  have h2 := aa_RR 10000 _ _ h1
  have h3 := q2_RR h2.1 n (Nat.le_refl _)
  have h4 := aa_RR 10000 _ _ h3
  refine ⟨h4.1, ?_⟩
  unfold c_ry d_ry
  rw [h2.2, h4.2]
theorem st_RR {n : Nat} {v u : mV} {a m : Nat} (h : R_R n v u) (ha : a < n) (hm : m < n) : d_st u a m = v 5 a m := by
  have hn6 := h.1.2
  unfold d_st
  by_cases he : nI a = nI m
  · have : a = m := (nI_inj' (by omega) (by omega)).mp he
    subst this
    rw [if_pos he, (h.2.2.2.2.2.1 a ha).1]
  · rw [if_neg he, (h.2.2.2.2.1 a ha m hm).1.1]
theorem tm_eq {n : Nat} {v u : mV} {a m : Nat} (h : R_R n v u) (ha : a < n) (hm : m < n) : d_tm u a m = v 7 a m := by
  have hn6 := h.1.2
  unfold d_tm
  by_cases he : nI a = nI m
  · have : a = m := (nI_inj' (by omega) (by omega)).mp he
    subst this
    rw [if_pos he, (h.2.2.2.2.2.1 a ha).2]
  · rw [if_neg he, (h.2.2.2.2.1 a ha m hm).2.2]
theorem se_eq {n : Nat} {v u : mV} {a m : Nat} (h : R_R n v u) (ha : a < n) (hm : m < n) : d_se u a m = v 11 a m := by
  unfold d_se
  rcases h.2.2.2.2.2.2.1 a ha m hm with ⟨e, f, -⟩ | ⟨e, f⟩
  · rw [if_neg (by rw [e]; decide), f]
  · rw [if_pos e, f]
theorem pr_eq {n : Nat} {v u : mV} {a : Nat} (h : R_R n v u) (ha : a < n) : d_pr u a = c_pr v a := by
  have hn6 := h.1.2
  obtain ⟨-, -, -, ⟨e9, n9⟩, ⟨e10, -⟩⟩ := h.2.2.2.1 a ha
  have hx := tg_neg hn6 n9
  unfold d_pr c_pr
  rw [← e9, ← e10]
  by_cases h9 : v 4 a 9 = -1
  · rw [if_pos h9, if_neg (i32_nle.mpr (hx.mp h9))]
  · rw [if_neg h9, if_pos (i32_nlt.mp (fun z => h9 (hx.mpr z)))]
theorem up_eq {n : Nat} {v u : mV} {a : Nat} (h : R_R n v u) (ha : a < n) : d_wk u a = c_up v a := by
  unfold d_wk c_up
  rcases (h.2.2.2.1 a ha).1 with ⟨hv, hu⟩ | ⟨hv, hu⟩
  · rw [hv, hu]; rfl
  · rw [hv, hu]; rfl
theorem dc_eq {n : Nat} {v u : mV} {m : Nat} (h : R_R n v u) (hm : m < n) : ∀ k, k ≤ n → d_dc u m k = c_dc v m k := by
  intro k
  induction k with
  | zero => exact fun _ => rfl
  | succ k ih =>
    intro hk
    unfold d_dc c_dc
    rw [ih (by omega), st_RR h (by omega : k < n) hm]
    rcases (h.2.2.2.1 k (by omega)).1 with ⟨hv, hu⟩ | ⟨hv, hu⟩
    · rw [if_pos hu, if_neg (by rw [hv]; decide : ¬ v 4 k 6 = 0)]
    · rw [if_neg (by rw [hu]; decide : ¬ u 21 0 k = 0), if_pos hv]
theorem d1_eq {n : Nat} {v u : mV} {a : Nat} (h : R_R n v u) (ha : a < n) : ∀ k, k ≤ n → d_d1 u a k = c_d1 v a k := by
  intro k
  induction k with
  | zero => exact fun _ => rfl
  | succ k ih =>
    intro hk
    unfold d_d1 c_d1
    rw [ih (by omega), st_RR h ha (by omega : k < n)]
    rcases (h.2.2.2.1 a ha).1 with ⟨hv, hu⟩ | ⟨hv, hu⟩
    · rw [if_pos hu, if_neg (by rw [hv]; decide : ¬ v 4 a 6 = 0)]
      rcases (h.2.2.2.1 k (by omega)).1 with ⟨hv2, hu2⟩ | ⟨hv2, hu2⟩
      · rw [if_pos hu2, if_neg (by rw [hv2]; decide : ¬ v 4 k 6 = 0)]
      · rw [if_neg (by rw [hu2]; decide : ¬ u 21 0 k = 0), if_pos hv2]
    · rw [if_neg (by rw [hu]; decide : ¬ u 21 0 a = 0), if_pos hv]
theorem d2_eq {n : Nat} {v u : mV} (h : R_R n v u) : ∀ k, k ≤ n → d_d2 n u k = c_d2 n v k := by
  intro k
  induction k with
  | zero => exact fun _ => rfl
  | succ k ih =>
    intro hk
    unfold d_d2 c_d2
    rw [ih (by omega), d1_eq h (by omega : k < n) n (Nat.le_refl _)]
theorem ms_eq {n : Nat} {v u : mV} {k : Nat} (h : R_R n v u) (hk : k < zz v) : d_ms u k = c_ms v (gg v k) := by
  obtain ⟨⟨e0, -⟩, ⟨e1, -⟩, ⟨e2, -⟩, -, ⟨e4, -⟩, -, e6, -⟩ := h.2.2.2.2.2.2.2.2.2.2 k hk
  unfold d_ms c_ms
  rw [e0, e1, e2, e4, e6]
theorem has_or {z : Nat} {x : Int32} (h : c_has z x = 0) : x < 0 ∨ nI z ≤ x := by
  unfold c_has at h
  split at h
  · exact Or.inl ‹_›
  · split at h
    · exact Or.inr ‹_›
    · exact absurd h (by decide)
theorem has_ol {z : Nat} {x : Int32} (h : c_has z x = 0) : x < 0 ∨ ¬ x < nI z := (has_or h).imp id (fun q => i32_nlt.mpr q)
/-- a call of the class and the same call of the reference: the same answer, and the relation again -/
def P_P (n L : Nat) (xs : Nat → Int32) (mi mj : Nat) (av : List aV) (c : Nat) (v u : mV) : Prop := ∃ (y : Int32) (v' u' : mV), E_v false n L xs 7 mi (Sum.inr (Sum.inl (0, 0)) :: av) (v, u, c) (some (Sum.inl y)) (v', u, c) ∧ E_v false n L xs 7 mj (Sum.inr (Sum.inl (20, 0)) :: av) (v', u, c) (some (Sum.inl y)) (v', u', c) ∧ R_R n v' u'
def P_L (n L : Nat) (xs : Nat → Int32) (mi mj : Nat) (av : List aV) (c : Nat) (v u : mV) : Prop := ∃ (y : Int64) (v' u' : mV), E_v false n L xs 7 mi (Sum.inr (Sum.inl (0, 0)) :: av) (v, u, c) (some (Sum.inr (Sum.inr y))) (v', u, c) ∧ E_v false n L xs 7 mj (Sum.inr (Sum.inl (20, 0)) :: av) (v', u, c) (some (Sum.inr (Sum.inr y))) (v', u', c) ∧ R_R n v' u'
section PP
variable {n L : Nat} {xs : Nat → Int32} {v u : mV} {c : Nat} {x z : Int32}
theorem pp_period (h : R_R n v u) (hc : c = (K_T n).length) : P_P n L xs 5 62 [Sum.inl x] c v u := by
  have hn6 := h.1.2
  have hI := IC_RR h
  by_cases hx : c_in n x = 0
  · exact ⟨_, _, _, e_period0 4 hn6 hc hI.1 hx, e_m_period0 4 hn6 h.2.2.1 hx, h⟩
  · obtain ⟨a, ha, rfl⟩ := in_0 hn6 hx
    rcases (h.2.2.2.1 a ha).1 with ⟨hv, hu⟩ | ⟨hv, hu⟩
    · refine ⟨_, _, _, e_period2 2 hn6 hc hI.1 ha (by rw [hv]; decide) (hI.2.2.2 a ha), ?_, mp_RR h ha⟩
      rw [(m2_RR h ha).2]
      exact e_m_period2 4 hn6 (WM_RR h) ha hu (NM_RR h ha)
    · exact ⟨_, _, _, e_period1 4 hn6 hc hI.1 ha hv, e_m_period1 4 hn6 h.2.2.1 ha (by rw [hu]; decide), h⟩
theorem pp_help (h : R_R n v u) (hc : c = (K_T n).length) : P_P n L xs 22 67 [Sum.inl x] c v u := by
  have hn6 := h.1.2
  have hI := IC_RR h
  by_cases hx : c_in n x = 0
  · exact ⟨_, _, _, e_help0 4 hn6 hc hI.1 hx, e_m_help0 3 hn6 h.2.2.1 hx, h⟩
  · obtain ⟨a, ha, rfl⟩ := in_0 hn6 hx
    rcases (h.2.2.2.1 a ha).1 with ⟨hv, hu⟩ | ⟨hv, hu⟩
    · have hw := wt_RR h ha hu
      rcases wt_01 (v := v) (a := a) with w | w
      · exact ⟨_, _, _, e_help2 4 hn6 hc hI.1 ha (by rw [hv]; decide) w, e_m_help1 3 hn6 h.2.2.1 ha (hw.trans w), h⟩
      · obtain ⟨k1, k2, k3, k4⟩ := help_RR h ha (by rw [w]; decide)
        have e9 := (h.2.2.2.1 a ha).2.2.2.1.1
        refine ⟨_, _, _, e_help3 2 hn6 hc hI.1 ha (by rw [hv]; decide) w k4 k3, ?_, k2⟩
        rw [k1]
        refine e_m_help2 3 hn6 (WM_RR h) ha (hw.trans w) ?_ ?_
        · rw [← e9]
          exact k4
        · rw [← e9]
          exact k3
    · refine ⟨_, _, _, e_help1 4 hn6 hc hI.1 ha hv, e_m_help1 3 hn6 h.2.2.1 ha ?_, h⟩
      unfold d_wt
      rw [if_neg (by rw [hu]; decide)]
theorem pp_deliver (h : R_R n v u) (hc : c = (K_T n).length) : P_P n L xs 25 50 [Sum.inl x] c v u := by
  have hn6 := h.1.2
  have hI := IC_RR h
  have hz := rw_zz h
  by_cases hx : c_has (zz v) x = 0
  · exact ⟨_, _, _, e_deliver0 5 hn6 hc hI.1 hx, e_m_deliver0 6 hn6 (WM_RR h) (by rw [hz]; exact has_ol hx), h⟩
  · obtain ⟨k, hk, rfl⟩ := has_0 hI.1.2.1.2 hx
    refine ⟨_, _, _, e_deliver1 1 hn6 hc hI.1 hk (hI.2.1 k hk) hI.2.2.1, ?_, arr_RR h hk⟩
    rw [(h.2.2.2.2.2.2.2.2.2.2 k hk).1.1]
    exact e_m_deliver1 3 hn6 (WM_RR h) (by rw [hz]; exact hk) (m24_RR h hk)
theorem pp_lose (h : R_R n v u) (hc : c = (K_T n).length) : P_P n L xs 34 61 [Sum.inl x] c v u := by
  have hn6 := h.1.2
  have hI := IC_RR h
  have hz := rw_zz h
  by_cases hx : c_has (zz v) x = 0
  · exact ⟨_, _, _, e_lose0 5 hn6 hc hI.1 hx, e_m_lose0 6 hn6 (WM_RR h) (by rw [hz]; exact has_ol hx), h⟩
  · obtain ⟨k, hk, rfl⟩ := has_0 hI.1.2.1.2 hx
    refine ⟨_, _, _, e_lose1 5 hn6 hc hI.1 hk (by rw [show zz v - 1 + 1 = zz v by omega]; exact hI.1.2.1.1), ?_, (tk_RR h hk).1⟩
    have := e_m_lose1 (L := L) (xs := xs) (v := c_tk v (gg v) k (zz v - 1)) (c := c) 4 hn6 (WM_RR h) (by rw [hz]; exact hk) (by rw [hz, show zz v - 1 + 1 = zz v by omega, ← hz]; exact (WM_RR h).2.1)
    rw [hz] at this
    exact this
theorem pp_round (h : R_R n v u) (hc : c = (K_T n).length) : P_P n L xs 35 69 [] c v u := by
  have hn6 := h.1.2
  obtain ⟨k1, k2⟩ := rv_RR h
  refine ⟨_, _, _, e_round 0 hn6 hc KC_RR ⟨u, h⟩, ?_, k1⟩
  rw [k2]
  exact e_m_round 2 hn6 KM_RR ⟨v, h⟩
theorem pp_stop (h : R_R n v u) (hc : c = (K_T n).length) : P_P n L xs 37 71 [Sum.inl x] c v u := by
  have hn6 := h.1.2
  have hI := IC_RR h
  by_cases hx : c_in n x = 0
  · exact ⟨_, _, _, e_stop0 4 hn6 hc hI.1 hx, e_m_stop0 4 hn6 h.2.2.1 hx, h⟩
  · obtain ⟨a, ha, rfl⟩ := in_0 hn6 hx
    obtain ⟨p1, p2, p3, p4, p5⟩ := id (h.2.2.2.1 a ha)
    rcases p1 with ⟨hv, hu⟩ | ⟨hv, hu⟩
    · refine ⟨_, _, _, e_stop2 4 hn6 hc hI.1 ha (by rw [hv]; decide), e_m_stop2 4 hn6 h.2.2.1 ha hu, ?_⟩
      refine nd_RR h ha (fun k i j hk => u3_n (by omega)) (fun k j hk => u3_n (by omega)) ?_
      unfold P_N
      rw [u3_s, u3_s, u3_n (by omega), u3_n (by omega), u3_n (by omega), u3_n (by omega), u3_n (by omega), u3_n (by omega), u3_n (by omega), u3_n (by omega)]
      exact ⟨Or.inr ⟨rfl, rfl⟩, p2, p3, p4, p5⟩
    · exact ⟨_, _, _, e_stop1 4 hn6 hc hI.1 ha hv, e_m_stop1 4 hn6 h.2.2.1 ha (by rw [hu]; decide), h⟩
theorem pp_isUp (h : R_R n v u) (hc : c = (K_T n).length) : P_P n L xs 6 72 [Sum.inl x] c v u := by
  have hn6 := h.1.2
  by_cases hx : c_in n x = 0
  · exact ⟨_, _, _, e_isUp0 5 hn6 h.2.1 hx, e_m_isUp0 4 hn6 h.2.2.1 hx, h⟩
  · obtain ⟨a, ha, rfl⟩ := in_0 hn6 hx
    refine ⟨_, _, _, e_isUp1 5 hn6 hc h.2.1 ha, ?_, h⟩
    rw [← up_eq h ha]
    exact e_m_isUp1 4 hn6 h.2.2.1 ha
theorem pp_status (h : R_R n v u) (hc : c = (K_T n).length) : P_P n L xs 38 73 [Sum.inl x, Sum.inl z] c v u := by
  have hn6 := h.1.2
  by_cases hx : c_in n x = 0
  · exact ⟨_, _, _, e_status0 5 hn6 hc h.2.1 hx, e_m_status0 5 hn6 h.2.2.1 hx, h⟩
  · obtain ⟨a, ha, rfl⟩ := in_0 hn6 hx
    by_cases hz : c_in n z = 0
    · exact ⟨_, _, _, e_status1 5 hn6 hc h.2.1 ha hz, e_m_status1 5 hn6 h.2.2.1 ha hz, h⟩
    · obtain ⟨m, hm, rfl⟩ := in_0 hn6 hz
      refine ⟨_, _, _, e_status2 5 hn6 hc h.2.1 ha hm, ?_, h⟩
      rw [← st_RR h ha hm]
      exact e_m_status2 5 hn6 h.2.2.1 ha hm
theorem pp_incarnation (h : R_R n v u) (hc : c = (K_T n).length) : P_P n L xs 39 74 [Sum.inl x, Sum.inl z] c v u := by
  have hn6 := h.1.2
  by_cases hx : c_in n x = 0
  · exact ⟨_, _, _, e_incarnation0 5 hn6 hc h.2.1 hx, e_m_incarnation0 5 hn6 h.2.2.1 hx, h⟩
  · obtain ⟨a, ha, rfl⟩ := in_0 hn6 hx
    by_cases hz : c_in n z = 0
    · exact ⟨_, _, _, e_incarnation1 5 hn6 hc h.2.1 ha hz, e_m_incarnation1 5 hn6 h.2.2.1 ha hz, h⟩
    · obtain ⟨m, hm, rfl⟩ := in_0 hn6 hz
      refine ⟨_, _, _, e_incarnation2 5 hn6 hc h.2.1 ha hm, ?_, h⟩
      rw [(h.2.2.2.2.1 a ha m hm).2.1]
      exact e_m_incarnation2 5 hn6 h.2.2.1 ha hm
theorem pp_timer (h : R_R n v u) (hc : c = (K_T n).length) : P_P n L xs 40 75 [Sum.inl x, Sum.inl z] c v u := by
  have hn6 := h.1.2
  by_cases hx : c_in n x = 0
  · exact ⟨_, _, _, e_timer0 5 hn6 hc h.2.1 hx, e_m_timer0 5 hn6 h.2.2.1 hx, h⟩
  · obtain ⟨a, ha, rfl⟩ := in_0 hn6 hx
    by_cases hz : c_in n z = 0
    · exact ⟨_, _, _, e_timer1 5 hn6 hc h.2.1 ha hz, e_m_timer1 5 hn6 h.2.2.1 ha hz, h⟩
    · obtain ⟨m, hm, rfl⟩ := in_0 hn6 hz
      refine ⟨_, _, _, e_timer2 5 hn6 hc h.2.1 ha hm, ?_, h⟩
      rw [← tm_eq h ha hm]
      exact e_m_timer2 5 hn6 h.2.2.1 ha hm
theorem pp_sent (h : R_R n v u) (hc : c = (K_T n).length) : P_P n L xs 42 77 [Sum.inl x, Sum.inl z] c v u := by
  have hn6 := h.1.2
  by_cases hx : c_in n x = 0
  · exact ⟨_, _, _, e_sent0 5 hn6 hc h.2.1 hx, e_m_sent0 5 hn6 h.2.2.1 hx, h⟩
  · obtain ⟨a, ha, rfl⟩ := in_0 hn6 hx
    by_cases hz : c_in n z = 0
    · exact ⟨_, _, _, e_sent1 5 hn6 hc h.2.1 ha hz, e_m_sent1 5 hn6 h.2.2.1 ha hz, h⟩
    · obtain ⟨m, hm, rfl⟩ := in_0 hn6 hz
      refine ⟨_, _, _, e_sent2 5 hn6 hc h.2.1 ha hm, ?_, h⟩
      rw [← se_eq h ha hm]
      exact e_m_sent2 5 hn6 h.2.2.1 ha hm
theorem pp_probe (h : R_R n v u) (hc : c = (K_T n).length) : P_P n L xs 41 76 [Sum.inl x] c v u := by
  have hn6 := h.1.2
  by_cases hx : c_in n x = 0
  · exact ⟨_, _, _, e_probe0 5 hn6 hc h.2.1 hx, e_m_probe0 5 hn6 h.2.2.1 hx, h⟩
  · obtain ⟨a, ha, rfl⟩ := in_0 hn6 hx
    refine ⟨_, _, _, e_probe1 5 hn6 hc h.2.1 ha, ?_, h⟩
    rw [← pr_eq h ha]
    exact e_m_probe1 5 hn6 h.2.2.1 ha
theorem pp_flying (h : R_R n v u) (hc : c = (K_T n).length) : P_P n L xs 43 78 [] c v u := by
  refine ⟨_, _, _, e_flying 6, ?_, h⟩
  have e : v 2 0 1 = u 20 0 13 := h.2.2.2.2.2.2.2.1.1.trans h.2.2.2.2.2.2.2.1.2.2.symm
  rw [e]
  exact e_m_flying 6
theorem pp_message (h : R_R n v u) (hc : c = (K_T n).length) : P_P n L xs 44 79 [Sum.inl x] c v u := by
  have hn6 := h.1.2
  have hI := IC_RR h
  have hz := rw_zz h
  by_cases hx : c_has (zz v) x = 0
  · exact ⟨_, _, _, e_message0 5 hn6 hc hI.1 hx, e_m_message0 6 hn6 (WM_RR h) (by rw [hz]; exact has_ol hx), h⟩
  · obtain ⟨k, hk, rfl⟩ := has_0 hI.1.2.1.2 hx
    refine ⟨_, _, _, e_message1 5 hn6 hc hI.1 hk hI.1.2.1.2, ?_, h⟩
    rw [← ms_eq h hk]
    exact e_m_message1 6 hn6 (WM_RR h) (by rw [hz]; exact hk)
theorem pp_news (h : R_R n v u) (hc : c = (K_T n).length) : P_L n L xs 45 80 [Sum.inl x, Sum.inl z] c v u := by
  have hn6 := h.1.2
  have hI := IC_RR h
  have hz := rw_zz h
  by_cases hx : c_has (zz v) x = 0
  · exact ⟨_, _, _, e_news0 5 hn6 hc hI.1 hx, e_m_news0 6 hn6 (WM_RR h) (by rw [hz]; exact has_or hx), h⟩
  · obtain ⟨k, hk, rfl⟩ := has_0 hI.1.2.1.2 hx
    obtain ⟨-, -, -, -, -, -, e6, cnt, hct, ec, hj⟩ := h.2.2.2.2.2.2.2.2.2.2 k hk
    have ec' := e6.symm.trans ec
    by_cases hy : c_has cnt z = 0
    · exact ⟨_, _, _, e_news1 5 hn6 hc hI.1 hk hI.1.2.1.2 (by rw [ec]; exact has_ol hy), e_m_news1 6 hn6 (WM_RR h) (by rw [hz]; exact hk) (by rw [ec']; exact has_ol hy), h⟩
    · obtain ⟨j, hjc, rfl⟩ := has_0 (by omega) hy
      refine ⟨_, _, _, e_news2 5 hn6 hc hI.1 hk hI.1.2.1.2 ec hct hjc, ?_, h⟩
      obtain ⟨⟨f1, -⟩, ⟨f2, -⟩, f3⟩ := hj j hjc
      have e : c_nn v (gg v k) j = d_nn u k j := by
        unfold c_nn d_nn
        rw [f1, f2, f3]
      rw [e]
      exact e_m_news2 6 hn6 (WM_RR h) (by rw [hz]; exact hk) ec' hct hjc
theorem pp_declared (h : R_R n v u) (hc : c = (K_T n).length) : P_P n L xs 46 81 [Sum.inl x] c v u := by
  have hn6 := h.1.2
  by_cases hx : c_in n x = 0
  · exact ⟨_, _, _, e_declared0 5 hn6 hc h.2.1 hx, e_m_declared0 5 hn6 h.2.2.1 hx, h⟩
  · obtain ⟨a, ha, rfl⟩ := in_0 hn6 hx
    refine ⟨_, _, _, e_declared1 5 hn6 hc h.2.1 ha, ?_, h⟩
    rw [← dc_eq h ha n (Nat.le_refl _)]
    exact e_m_declared1 4 hn6 h.2.2.1 ha
theorem pp_doubted (h : R_R n v u) (hc : c = (K_T n).length) : P_P n L xs 47 82 [] c v u := by
  have hn6 := h.1.2
  have hn0 : 0 < n := by have := h.1.1; omega
  refine ⟨_, _, _, e_doubted 6 hn6 hc h.2.1 hn0, ?_, h⟩
  rw [← d2_eq h n (Nat.le_refl _)]
  exact e_m_doubted 4 hn6 h.2.2.1 hn0
end PP
