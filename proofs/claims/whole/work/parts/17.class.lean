def zz (v : mV) : Nat := ix (v 2 0 1)
def gg (v : mV) (k : Nat) : Nat := ix (v 3 0 k)
def rO (x : Int32) : Option Nat := if x = -1 then none else some (ix x)
/-- a sound state of the class, as far as walks ask -/
def W_C (n : Nat) (v : mV) : Prop := F_n n v ∧ (v 2 0 1 = nI (zz v) ∧ zz v ≤ 24) ∧ ∀ j, j < 25 → v 3 0 j = nI (gg v j) ∧ gg v j < 25
theorem wc_of {n : Nat} {v w : mV} (h : W_C n v) (h2 : w 2 = v 2) (h3 : w 3 = v 3) (hf : F_n n w) : W_C n w := by
  obtain ⟨-, hz, hg⟩ := h
  refine ⟨hf, ?_, ?_⟩
  · unfold zz
    rw [h2]
    exact hz
  · unfold gg
    rw [h3]
    exact hg
/-- a message that may arrive -/
def M_C (n : Nat) (v : mV) (q : Nat) : Prop := (v 12 q 0 = 1 ∨ v 12 q 0 = 2 ∨ v 12 q 0 = 3) ∧ (v 12 q 2 = nI (ix (v 12 q 2)) ∧ ix (v 12 q 2) < n) ∧ (v 12 q 6 = nI (ix (v 12 q 6)) ∧ ix (v 12 q 6) ≤ 2) ∧ ∀ j, j < ix (v 12 q 6) → v 13 q j = nI (ix (v 13 q j)) ∧ ix (v 13 q j) < n
theorem ag_k {a j : Nat} {v : mV} {k : Nat} (h : (Nat.beq k 5 || (Nat.beq k 6 || (Nat.beq k 7 || (Nat.beq k 9 || (Nat.beq k 10 || Nat.beq k 11))))) = false) : c_ag v a j k = v k := by
  induction j with
  | zero => rfl
  | succ j ih =>
    refine Eq.trans ?_ ih
    show c_ag1 (c_ag v a j) a j k = _
    have h7 : Nat.beq k 7 = false := by
      simp only [Bool.or_eq_false_iff] at h
      exact h.2.2.1
    unfold c_ag1
    split
    · split
      · rw [adopt_k h, u3_k h7]
      · rw [u3_k h7]
    · rfl
theorem ss_k {a : Nat} {o : Option Nat} {v : mV} {k : Nat} (h : (Nat.beq k 5 || (Nat.beq k 6 || (Nat.beq k 7 || (Nat.beq k 9 || (Nat.beq k 10 || Nat.beq k 11))))) = false) : c_ss v a o k = v k := by
  unfold c_ss
  split
  · rfl
  · split
    · rfl
    · split
      · exact adopt_k h
      · rfl
theorem ho_k {a q cnt : Nat} {m : Option Nat} {v : mV} {k : Nat} (h : (Nat.beq k 11 || (Nat.beq k 12 || (Nat.beq k 13 || (Nat.beq k 14 || Nat.beq k 15)))) = false) : c_ho v a m q cnt k = v k := by
  simp only [Bool.or_eq_false_iff] at h
  obtain ⟨h11, h12, h13, h14, h15⟩ := h
  cases m with
  | none => rfl
  | some t =>
    unfold c_ho
    dsimp only
    split
    · rw [u3_k h11, u3_k h11, u3_k h12, u3_k h15, u3_k h14, u3_k h13]
    · rw [u3_k h11, u3_k h12, u3_k h15, u3_k h14, u3_k h13]
theorem load_k {n a q : Nat} {v : mV} {k : Nat} (h : (Nat.beq k 11 || (Nat.beq k 12 || (Nat.beq k 13 || (Nat.beq k 14 || Nat.beq k 15)))) = false) : c_load n v a q k = v k := by
  have h12 : Nat.beq k 12 = false := by
    simp only [Bool.or_eq_false_iff] at h
    exact h.2.1
  unfold c_load
  cases c_lo (m_u3 v 12 q 6 0) a (-1) n with
  | none => exact u3_k h12
  | some f => exact (ho_k h).trans ((ho_k h).trans (u3_k h12))
theorem send_k {n a q z : Nat} {kd to og tg pn : Int32} {v : mV} {k : Nat} (h : (Nat.beq k 11 || (Nat.beq k 12 || (Nat.beq k 13 || (Nat.beq k 14 || Nat.beq k 15)))) = false) : c_send n v a kd to og tg pn q z k = c_pf v z k := by
  have h12 : Nat.beq k 12 = false := by
    simp only [Bool.or_eq_false_iff] at h
    exact h.2.1
  unfold c_send
  rw [load_k h, u3_k h12, u3_k h12, u3_k h12, u3_k h12, u3_k h12, u3_k h12]
theorem pf_k {z : Nat} {v : mV} {k : Nat} (h : Nat.beq k 2 = false) : c_pf v z k = v k := by
  unfold c_pf
  split
  · rfl
  · rw [u3_k h]
theorem pf_z {z : Nat} {v : mV} (h : v 2 0 1 = nI z) (hz : z ≤ 24) : c_pf v z 2 0 1 = nI (if z < 24 then z + 1 else z) := by
  unfold c_pf
  by_cases h1 : z < 24
  · have hc : ¬ (24 : Int32) ≤ nI z := fun q => absurd ((nI_le' (a := 24) (b := z) (by omega) (by omega)).mp q) (by omega)
    rw [if_neg hc, if_pos h1, u3_s]
  · have hc : (24 : Int32) ≤ nI z := (nI_le' (a := 24) (b := z) (by omega) (by omega)).mpr (by omega)
    rw [if_pos hc, if_neg h1, h]
theorem wc_send {n a : Nat} {kd to og tg pn : Int32} {v : mV} (h : W_C n v) : W_C n (c_send n v a kd to og tg pn (gg v (zz v)) (zz v)) := by
  obtain ⟨hf, hz, hg⟩ := h
  have e2 : c_send n v a kd to og tg pn (gg v (zz v)) (zz v) 2 0 1 = nI (if zz v < 24 then zz v + 1 else zz v) := by
    rw [send_k rfl, pf_z hz.1 hz.2]
  have e3 : c_send n v a kd to og tg pn (gg v (zz v)) (zz v) 3 = v 3 := by
    rw [send_k rfl, pf_k rfl]
  have hb : (if zz v < 24 then zz v + 1 else zz v) ≤ 24 := by split <;> omega
  have e4 : zz (c_send n v a kd to og tg pn (gg v (zz v)) (zz v)) = if zz v < 24 then zz v + 1 else zz v := by
    show ix (c_send n v a kd to og tg pn (gg v (zz v)) (zz v) 2 0 1) = _
    rw [e2, ix_nI (by omega)]
  refine ⟨fn_send hf, ⟨by rw [e4]; exact e2, by rw [e4]; exact hb⟩, fun j hj => ?_⟩
  show c_send n v a kd to og tg pn (gg v (zz v)) (zz v) 3 0 j = nI (ix (c_send n v a kd to og tg pn (gg v (zz v)) (zz v) 3 0 j)) ∧ ix (c_send n v a kd to og tg pn (gg v (zz v)) (zz v) 3 0 j) < 25
  rw [e3]
  exact hg j hj
theorem tk_k {k z : Nat} {g : Nat → Nat} {v : mV} {k' : Nat} (h : (Nat.beq k' 2 || Nat.beq k' 3) = false) : c_tk v g k z k' = v k' := by
  rw [Bool.or_eq_false_iff] at h
  unfold c_tk
  rw [u3_k h.1, u3_k h.2, to_k h.2]
/-- the order of the places behind a taking out -/
def g_t (g : Nat → Nat) (k j : Nat) : Nat := if j < k then g j else if j < 24 then g (j + 1) else g k
theorem to_at {v : mV} {g : Nat → Nat} {k : Nat} : ∀ (j i : Nat), c_to v g k j 3 0 i = if k ≤ i ∧ i < k + j then nI (g (i + 1)) else v 3 0 i := by
  intro j
  induction j with
  | zero =>
    intro i
    rw [if_neg (by omega)]
    rfl
  | succ j ih =>
    intro i
    unfold c_to
    by_cases hi : i = k + j
    · subst hi
      rw [u3_s, if_pos (by omega)]
    · rw [u3_n (by omega), ih i]
      by_cases h : k ≤ i ∧ i < k + j
      · rw [if_pos h, if_pos (by omega)]
      · rw [if_neg h, if_neg (by omega)]
theorem tk_3 {v : mV} {g : Nat → Nat} {k z i : Nat} (hg : ∀ j, j < 25 → v 3 0 j = nI (g j)) (hk : k ≤ 24) (hi : i < 25) : c_tk v g k z 3 0 i = nI (g_t g k i) := by
  unfold c_tk
  rw [u3_k (k' := 3) rfl]
  unfold g_t
  by_cases h24 : i = 24
  · subst h24
    rw [u3_s, if_neg (by omega), if_neg (by omega)]
  · rw [u3_n (by omega), to_at]
    by_cases h : k ≤ i ∧ i < k + (24 - k)
    · rw [if_pos h, if_neg (by omega), if_pos (by omega)]
    · rw [if_neg h, if_pos (by omega), hg i hi]
theorem tk_2 {v : mV} {g : Nat → Nat} {k z : Nat} : c_tk v g k z 2 0 1 = nI z := u3_s
theorem wc_tk {n : Nat} {v : mV} {k : Nat} (h : W_C n v) (hk : k < zz v) : W_C n (c_tk v (gg v) k (zz v - 1)) := by
  obtain ⟨hf, hz, hg⟩ := h
  refine ⟨fn_tk hf, ?_, fun j hj => ?_⟩
  · unfold zz
    rw [tk_2, ix_nI (by unfold zz at hz; omega)]
    exact ⟨rfl, by unfold zz at hz; omega⟩
  · have e := tk_3 (z := zz v - 1) (fun j hj => (hg j hj).1) (by omega : k ≤ 24) hj
    have hb : g_t (gg v) k j < 25 := by
      unfold g_t
      split
      · exact (hg j hj).2
      · split
        · exact (hg (j + 1) (by omega)).2
        · exact (hg k (by omega)).2
    unfold gg at e ⊢
    rw [e, ix_nI (by unfold gg at hb; omega)]
    exact ⟨rfl, hb⟩
theorem wc_hN {n a q j : Nat} {v : mV} (h : W_C n v) : W_C n (c_hN v a q j) := wc_of h (hN_k rfl) (hN_k rfl) (fn_hN h.1)
/-- what b sends or notes because of the message q -/
def c_re (n : Nat) (v : mV) (b q : Nat) : mV :=
  if v 12 q 0 = 1 then c_send n v b 2 (v 12 q 1) (v 12 q 3) (v 12 q 4) (v 12 q 5) (gg v (zz v)) (zz v)
  else if v 12 q 0 = 2 then (if nI b = v 12 q 3 then c_ta v b (v 12 q 5) else c_send n v b 2 (v 12 q 3) (v 12 q 3) (v 12 q 4) (v 12 q 5) (gg v (zz v)) (zz v))
  else c_send n v b 1 (v 12 q 4) (v 12 q 3) (v 12 q 4) (v 12 q 5) (gg v (zz v)) (zz v)
def c_arr (n : Nat) (v : mV) (k : Nat) : mV :=
  if v 4 (ix (v 12 (gg v k) 2)) 6 = 0 then c_tk v (gg v) k (zz v - 1)
  else c_re n (c_hN (c_tk v (gg v) k (zz v - 1)) (ix (v 12 (gg v k) 2)) (gg v k) (ix (v 12 (gg v k) 6))) (ix (v 12 (gg v k) 2)) (gg v k)
def c_m2 (n : Nat) (v : mV) (a : Nat) : mV := c_ss (c_ag v a n) a (rO (v 4 a 9))
def c_mo (n : Nat) (v : mV) (a : Nat) : Option Nat := c_nt n (c_m2 n v a) a n (ix (v 4 a 7))
def c_m3 (n : Nat) (v : mV) (a : Nat) : mV := c_ct (c_m2 n v a) a (c_mo n v a)
def c_mp (n : Nat) (v : mV) (a : Nat) : mV := if oI (c_mo n v a) = -1 then c_m3 n v a else c_send n (c_m3 n v a) a 1 (oI (c_mo n v a)) (nI a) (oI (c_mo n v a)) (c_m3 n v a 4 a 8) (gg (c_m3 n v a) (zz (c_m3 n v a))) (zz (c_m3 n v a))
/-- asking for help: r steps are left, the last was t, 'as' have been asked -/
def c_ask (n : Nat) (a : Nat) : Nat → Nat → Nat → mV → Nat × mV
  | 0, _, as, v => (as, v)
  | r + 1, t, as, v => if 2 ≤ nI as then (as, v) else if c_ma v a (nx n t) = 0 then c_ask n a r (nx n t) as v else c_ask n a r (nx n t) (as + 1) (c_send n v a 3 (nI (nx n t)) (nI a) (v 4 a 9) (v 4 a 8) (gg v (zz v)) (zz v))
set_option maxRecDepth 100000 in
theorem e_react (d : Nat) {n L : Nat} {xs : Nat → Int32} {v u : mV} {c : Nat} {b q : Nat} (hn : n ≤ 6) (hc : c = (K_T n).length) (hw : W_C n v) (ha : b < n) (hkd : v 12 q 0 = 1 ∨ v 12 q 0 = 2 ∨ v 12 q 0 = 3) : E_v false n L xs (d + 4) 32 [Sum.inr (Sum.inl (0, 0)), Sum.inr (Sum.inl (4, b)), Sum.inr (Sum.inl (12, q))] (v, u, c) none (c_re n v b q, u, c) := by
  refine E_mk mc_32 (by decide) ?_
  refine G_steps 11 (S1 := (21, [some (Sum.inr (Sum.inl (0, 0))), some (Sum.inr (Sum.inl (4, b))), some (Sum.inr (Sum.inl (12, q))), some (Sum.inl (v 12 q 3)), some (Sum.inl (v 12 q 4)), some (Sum.inl (v 12 q 5))], [Sum.inl (v 12 q 0)], (v, u, c))) rfl rfl ?_
  rcases hkd with h9 | h9 | h9
  · skip
    rw [h9]
    refine G_step (S1 := (48, [some (Sum.inr (Sum.inl (0, 0))), some (Sum.inr (Sum.inl (4, b))), some (Sum.inr (Sum.inl (12, q))), some (Sum.inl (v 12 q 3)), some (Sum.inl (v 12 q 4)), some (Sum.inl (v 12 q 5))], [], (v, u, c))) rfl rfl ?_
    refine G_steps 8 (S1 := (60, [some (Sum.inr (Sum.inl (0, 0))), some (Sum.inr (Sum.inl (4, b))), some (Sum.inr (Sum.inl (12, q))), some (Sum.inl (v 12 q 3)), some (Sum.inl (v 12 q 4)), some (Sum.inl (v 12 q 5))], [Sum.inl (v 12 q 5), Sum.inl (v 12 q 4), Sum.inl (v 12 q 3), Sum.inl (v 12 q 1), Sum.inr (Sum.inl (4, b)), Sum.inl 2, Sum.inr (Sum.inl (0, 0))], (v, u, c))) rfl rfl ?_
    refine G_call (y := none) (M1 := (c_send n v b 2 (v 12 q 1) (v 12 q 3) (v 12 q 4) (v 12 q 5) (gg v (zz v)) (zz v), u, c)) rfl rfl (e_send _ hn hc (hw).1 (by omega) (hw).2.1.1 (hw).2.1.2 ((hw).2.2 _ (Nat.lt_succ_of_le (hw).2.1.2)).1 ((hw).2.2 _ (Nat.lt_succ_of_le (hw).2.1.2)).2) ?_
    refine G_is (S' := (63, [some (Sum.inr (Sum.inl (0, 0))), some (Sum.inr (Sum.inl (4, b))), some (Sum.inr (Sum.inl (12, q))), some (Sum.inl (v 12 q 3)), some (Sum.inl (v 12 q 4)), some (Sum.inl (v 12 q 5))], [], (c_send n v b 2 (v 12 q 1) (v 12 q 3) (v 12 q 4) (v 12 q 5) (gg v (zz v)) (zz v), u, c))) rfl ?_
    refine G_steps 1 (S1 := (114, [some (Sum.inr (Sum.inl (0, 0))), some (Sum.inr (Sum.inl (4, b))), some (Sum.inr (Sum.inl (12, q))), some (Sum.inl (v 12 q 3)), some (Sum.inl (v 12 q 4)), some (Sum.inl (v 12 q 5))], [], (c_send n v b 2 (v 12 q 1) (v 12 q 3) (v 12 q 4) (v 12 q 5) (gg v (zz v)) (zz v), u, c))) rfl rfl ?_
    exact G_fin rfl rfl (M_1 (by rw [c_re, if_pos h9]))
  · skip
    rw [h9]
    refine G_step (S1 := (66, [some (Sum.inr (Sum.inl (0, 0))), some (Sum.inr (Sum.inl (4, b))), some (Sum.inr (Sum.inl (12, q))), some (Sum.inl (v 12 q 3)), some (Sum.inl (v 12 q 4)), some (Sum.inl (v 12 q 5))], [], (v, u, c))) rfl rfl ?_
    refine G_steps 2 (S1 := (70, [some (Sum.inr (Sum.inl (0, 0))), some (Sum.inr (Sum.inl (4, b))), some (Sum.inr (Sum.inl (12, q))), some (Sum.inl (v 12 q 3)), some (Sum.inl (v 12 q 4)), some (Sum.inl (v 12 q 5))], [Sum.inl (v 4 b 0)], (v, u, c))) rfl rfl ?_
    refine G_top ((hw.1.2 b (by omega)).1) ?_
    refine G_steps 2 (S1 := (if ¬ nI b = v 12 q 3 then 83 else 74, [some (Sum.inr (Sum.inl (0, 0))), some (Sum.inr (Sum.inl (4, b))), some (Sum.inr (Sum.inl (12, q))), some (Sum.inl (v 12 q 3)), some (Sum.inl (v 12 q 4)), some (Sum.inl (v 12 q 5))], [], (v, u, c))) rfl rfl ?_
    refine G_ifn (fun h1 => ?_) (fun h1 => ?_)
    · skip
      refine G_steps 7 (S1 := (92, [some (Sum.inr (Sum.inl (0, 0))), some (Sum.inr (Sum.inl (4, b))), some (Sum.inr (Sum.inl (12, q))), some (Sum.inl (v 12 q 3)), some (Sum.inl (v 12 q 4)), some (Sum.inl (v 12 q 5))], [Sum.inl (v 12 q 5), Sum.inl (v 12 q 4), Sum.inl (v 12 q 3), Sum.inl (v 12 q 3), Sum.inr (Sum.inl (4, b)), Sum.inl 2, Sum.inr (Sum.inl (0, 0))], (v, u, c))) rfl rfl ?_
      refine G_call (y := none) (M1 := (c_send n v b 2 (v 12 q 3) (v 12 q 3) (v 12 q 4) (v 12 q 5) (gg v (zz v)) (zz v), u, c)) rfl rfl (e_send _ hn hc (hw).1 (by omega) (hw).2.1.1 (hw).2.1.2 ((hw).2.2 _ (Nat.lt_succ_of_le (hw).2.1.2)).1 ((hw).2.2 _ (Nat.lt_succ_of_le (hw).2.1.2)).2) ?_
      refine G_is (S' := (95, [some (Sum.inr (Sum.inl (0, 0))), some (Sum.inr (Sum.inl (4, b))), some (Sum.inr (Sum.inl (12, q))), some (Sum.inl (v 12 q 3)), some (Sum.inl (v 12 q 4)), some (Sum.inl (v 12 q 5))], [], (c_send n v b 2 (v 12 q 3) (v 12 q 3) (v 12 q 4) (v 12 q 5) (gg v (zz v)) (zz v), u, c))) rfl ?_
      refine G_steps 1 (S1 := (114, [some (Sum.inr (Sum.inl (0, 0))), some (Sum.inr (Sum.inl (4, b))), some (Sum.inr (Sum.inl (12, q))), some (Sum.inl (v 12 q 3)), some (Sum.inl (v 12 q 4)), some (Sum.inl (v 12 q 5))], [], (c_send n v b 2 (v 12 q 3) (v 12 q 3) (v 12 q 4) (v 12 q 5) (gg v (zz v)) (zz v), u, c))) rfl rfl ?_
      exact G_fin rfl rfl (M_1 (by rw [c_re, if_neg (by rw [h9]; decide), if_pos h9, if_neg h1]))
    · skip
      refine G_steps 2 (S1 := (77, [some (Sum.inr (Sum.inl (0, 0))), some (Sum.inr (Sum.inl (4, b))), some (Sum.inr (Sum.inl (12, q))), some (Sum.inl (v 12 q 3)), some (Sum.inl (v 12 q 4)), some (Sum.inl (v 12 q 5))], [Sum.inl (v 12 q 5), Sum.inr (Sum.inl (4, b))], (v, u, c))) rfl rfl ?_
      refine G_call (y := none) (M1 := (c_ta v b (v 12 q 5), u, c)) rfl rfl (e_takeAnswer _) ?_
      refine G_is (S' := (80, [some (Sum.inr (Sum.inl (0, 0))), some (Sum.inr (Sum.inl (4, b))), some (Sum.inr (Sum.inl (12, q))), some (Sum.inl (v 12 q 3)), some (Sum.inl (v 12 q 4)), some (Sum.inl (v 12 q 5))], [], (c_ta v b (v 12 q 5), u, c))) rfl ?_
      refine G_steps 1 (S1 := (114, [some (Sum.inr (Sum.inl (0, 0))), some (Sum.inr (Sum.inl (4, b))), some (Sum.inr (Sum.inl (12, q))), some (Sum.inl (v 12 q 3)), some (Sum.inl (v 12 q 4)), some (Sum.inl (v 12 q 5))], [], (c_ta v b (v 12 q 5), u, c))) rfl rfl ?_
      exact G_fin rfl rfl (M_1 (by rw [c_re, if_neg (by rw [h9]; decide), if_pos h9, if_pos h1]))
  · skip
    rw [h9]
    refine G_step (S1 := (98, [some (Sum.inr (Sum.inl (0, 0))), some (Sum.inr (Sum.inl (4, b))), some (Sum.inr (Sum.inl (12, q))), some (Sum.inl (v 12 q 3)), some (Sum.inl (v 12 q 4)), some (Sum.inl (v 12 q 5))], [], (v, u, c))) rfl rfl ?_
    refine G_steps 7 (S1 := (108, [some (Sum.inr (Sum.inl (0, 0))), some (Sum.inr (Sum.inl (4, b))), some (Sum.inr (Sum.inl (12, q))), some (Sum.inl (v 12 q 3)), some (Sum.inl (v 12 q 4)), some (Sum.inl (v 12 q 5))], [Sum.inl (v 12 q 5), Sum.inl (v 12 q 4), Sum.inl (v 12 q 3), Sum.inl (v 12 q 4), Sum.inr (Sum.inl (4, b)), Sum.inl 1, Sum.inr (Sum.inl (0, 0))], (v, u, c))) rfl rfl ?_
    refine G_call (y := none) (M1 := (c_send n v b 1 (v 12 q 4) (v 12 q 3) (v 12 q 4) (v 12 q 5) (gg v (zz v)) (zz v), u, c)) rfl rfl (e_send _ hn hc (hw).1 (by omega) (hw).2.1.1 (hw).2.1.2 ((hw).2.2 _ (Nat.lt_succ_of_le (hw).2.1.2)).1 ((hw).2.2 _ (Nat.lt_succ_of_le (hw).2.1.2)).2) ?_
    refine G_is (S' := (111, [some (Sum.inr (Sum.inl (0, 0))), some (Sum.inr (Sum.inl (4, b))), some (Sum.inr (Sum.inl (12, q))), some (Sum.inl (v 12 q 3)), some (Sum.inl (v 12 q 4)), some (Sum.inl (v 12 q 5))], [], (c_send n v b 1 (v 12 q 4) (v 12 q 3) (v 12 q 4) (v 12 q 5) (gg v (zz v)) (zz v), u, c))) rfl ?_
    refine G_steps 1 (S1 := (114, [some (Sum.inr (Sum.inl (0, 0))), some (Sum.inr (Sum.inl (4, b))), some (Sum.inr (Sum.inl (12, q))), some (Sum.inl (v 12 q 3)), some (Sum.inl (v 12 q 4)), some (Sum.inl (v 12 q 5))], [], (c_send n v b 1 (v 12 q 4) (v 12 q 3) (v 12 q 4) (v 12 q 5) (gg v (zz v)) (zz v), u, c))) rfl rfl ?_
    exact G_fin rfl rfl (M_1 (by rw [c_re, if_neg (by rw [h9]; decide), if_neg (by rw [h9]; decide)]))
theorem re_12 {n b q q' : Nat} {v : mV} (h : ¬ q' = gg v (zz v)) (j : Nat) : c_re n v b q 12 q' j = v 12 q' j := by
  have hs : ∀ kd to og tg pn, c_send n v b kd to og tg pn (gg v (zz v)) (zz v) 12 q' j = v 12 q' j := by
    intro kd to og tg pn
    have hho : ∀ (w : mV) (m : Option Nat) (cnt : Nat), c_ho w b m (gg v (zz v)) cnt 12 q' j = w 12 q' j := by
      intro w m cnt
      cases m with
      | none => rfl
      | some t =>
        unfold c_ho
        dsimp only
        split
        · rw [u3_k (k' := 12) rfl, u3_k (k' := 12) rfl, u3_n (fun z => h z.2.2), u3_k (k' := 12) rfl, u3_k (k' := 12) rfl, u3_k (k' := 12) rfl]
        · rw [u3_k (k' := 12) rfl, u3_n (fun z => h z.2.2), u3_k (k' := 12) rfl, u3_k (k' := 12) rfl, u3_k (k' := 12) rfl]
    unfold c_send c_load
    have hb : ∀ w : mV, m_u3 w 12 (gg v (zz v)) 6 0 12 q' j = w 12 q' j := fun w => u3_n (fun z => h z.2.2)
    cases c_lo (m_u3 (m_u3 (m_u3 (m_u3 (m_u3 (m_u3 (m_u3 (c_pf v (zz v)) 12 (gg v (zz v)) 0 kd) 12 (gg v (zz v)) 1 (nI b)) 12 (gg v (zz v)) 2 to) 12 (gg v (zz v)) 3 og) 12 (gg v (zz v)) 4 tg) 12 (gg v (zz v)) 5 pn) 12 (gg v (zz v)) 6 0) b (-1) n with
    | none =>
      dsimp only
      rw [hb, u3_n (fun z => h z.2.2), u3_n (fun z => h z.2.2), u3_n (fun z => h z.2.2), u3_n (fun z => h z.2.2), u3_n (fun z => h z.2.2), u3_n (fun z => h z.2.2), pf_k rfl]
    | some f =>
      dsimp only
      rw [hho, hho, hb, u3_n (fun z => h z.2.2), u3_n (fun z => h z.2.2), u3_n (fun z => h z.2.2), u3_n (fun z => h z.2.2), u3_n (fun z => h z.2.2), u3_n (fun z => h z.2.2), pf_k rfl]
  unfold c_re
  split
  · exact hs _ _ _ _ _
  · split
    · split
      · unfold c_ta
        split
        · rfl
        · split
          · rw [u3_k (k' := 12) rfl]
          · rfl
      · exact hs _ _ _ _ _
    · exact hs _ _ _ _ _
set_option maxRecDepth 100000 in
theorem e_arrive (d : Nat) {n L : Nat} {xs : Nat → Int32} {v u : mV} {c : Nat} {k : Nat} (hn : n ≤ 6) (hc : c = (K_T n).length) (hw : W_C n v) (hk : k < zz v) (hm : M_C n v (gg v k)) (hj : ∀ i j, i < 25 → j < 25 → gg v i = gg v j → i = j) : E_v false n L xs (d + 5) 27 [Sum.inr (Sum.inl (0, 0)), Sum.inl (nI k)] (v, u, c) (some (Sum.inl (v 12 (gg v k) 0))) (c_arr n v k, u, c) := by
  refine E_mk mc_27 (by decide) ?_
  have hz24 := hw.2.1.2
  have hz1 : v 2 0 1 = nI (zz v - 1 + 1) := by
    rw [show zz v - 1 + 1 = zz v by omega]
    exact hw.2.1.1
  have hw1 := wc_tk hw hk
  have e12 : c_tk v (gg v) k (zz v - 1) 12 = v 12 := tk_k rfl
  have e13 : c_tk v (gg v) k (zz v - 1) 13 = v 13 := tk_k rfl
  have e4 : c_tk v (gg v) k (zz v - 1) 4 = v 4 := tk_k rfl
  have hnd : ∀ j, j < ix (v 12 (gg v k) 6) → (c_tk v (gg v) k (zz v - 1)) 13 (gg v k) j = nI (ix ((c_tk v (gg v) k (zz v - 1)) 13 (gg v k) j)) ∧ ix ((c_tk v (gg v) k (zz v - 1)) 13 (gg v k) j) < n := by
    rw [e13]
    exact hm.2.2.2
  have hlast : ¬ gg v k = gg (c_hN (c_tk v (gg v) k (zz v - 1)) (ix (v 12 (gg v k) 2)) (gg v k) (ix (v 12 (gg v k) 6))) (zz (c_hN (c_tk v (gg v) k (zz v - 1)) (ix (v 12 (gg v k) 2)) (gg v k) (ix (v 12 (gg v k) 6)))) := by
    have e1 : zz (c_hN (c_tk v (gg v) k (zz v - 1)) (ix (v 12 (gg v k) 2)) (gg v k) (ix (v 12 (gg v k) 6))) = zz v - 1 := by
      unfold zz
      rw [hN_k (k := 2) rfl, tk_2, ix_nI (by unfold zz at hz24; omega)]
    rw [e1]
    have e2 : gg (c_hN (c_tk v (gg v) k (zz v - 1)) (ix (v 12 (gg v k) 2)) (gg v k) (ix (v 12 (gg v k) 6))) (zz v - 1) = g_t (gg v) k (zz v - 1) := by
      have e3 := tk_3 (z := zz v - 1) (fun j hj => (hw.2.2 j hj).1) (by omega : k ≤ 24) (by omega : zz v - 1 < 25)
      have hb : g_t (gg v) k (zz v - 1) < 25 := by
        unfold g_t
        split
        · exact (hw.2.2 _ (by omega)).2
        · split
          · exact (hw.2.2 _ (by omega)).2
          · exact (hw.2.2 _ (by omega)).2
      show ix (c_hN (c_tk v (gg v) k (zz v - 1)) (ix (v 12 (gg v k) 2)) (gg v k) (ix (v 12 (gg v k) 6)) 3 0 (zz v - 1)) = _
      rw [hN_k (k := 3) rfl, e3, ix_nI (by omega)]
    rw [e2]
    unfold g_t
    intro z
    split at z
    · have := hj _ _ (by omega) (by omega) z
      omega
    · split at z
      · have := hj _ _ (by omega) (by omega) z
        omega
      · omega
  refine G_steps 3 (S1 := (5, [some (Sum.inr (Sum.inl (0, 0))), some (Sum.inl (nI k)), none, none], [Sum.inl (nI k), Sum.inr (Sum.inl (2, 0))], (v, u, c))) rfl rfl ?_
  refine G_call (y := some (Sum.inr (Sum.inl (12, gg v k)))) (M1 := (c_tk v (gg v) k (zz v - 1), u, c)) rfl rfl (e_takeOut _ hn hc hw.2.2 (by omega) hz1 (by omega)) ?_
  refine G_is (S' := (8, [some (Sum.inr (Sum.inl (0, 0))), some (Sum.inl (nI k)), none, none], [Sum.inr (Sum.inl (12, gg v k))], (c_tk v (gg v) k (zz v - 1), u, c))) rfl ?_
  refine G_steps 5 (S1 := (17, [some (Sum.inr (Sum.inl (0, 0))), some (Sum.inl (nI k)), some (Sum.inr (Sum.inl (12, gg v k))), none], [Sum.inl ((c_tk v (gg v) k (zz v - 1)) 12 (gg v k) 2), Sum.inr (Sum.inl (1, 0))], (c_tk v (gg v) k (zz v - 1), u, c))) rfl rfl ?_
  refine G_top ((congrFun (congrFun e12 _) _).trans hm.2.1.1) ?_
  refine G_step (S1 := (18, [some (Sum.inr (Sum.inl (0, 0))), some (Sum.inl (nI k)), some (Sum.inr (Sum.inl (12, gg v k))), none], [Sum.inr (Sum.inl (4, ix (nI (ix (v 12 (gg v k) 2)))))], (c_tk v (gg v) k (zz v - 1), u, c))) rfl (ald_n' (a := ix (v 12 (gg v k) 2)) hn hm.2.1.2 hc) ?_
  rw [ix_nI (j := ix (v 12 (gg v k) 2)) (by have := hm.2.1.2; omega)]
  refine G_steps 3 (S1 := (23, [some (Sum.inr (Sum.inl (0, 0))), some (Sum.inl (nI k)), some (Sum.inr (Sum.inl (12, gg v k))), some (Sum.inr (Sum.inl (4, ix (v 12 (gg v k) 2))))], [Sum.inl ((c_tk v (gg v) k (zz v - 1)) 4 (ix (v 12 (gg v k) 2)) 6)], (c_tk v (gg v) k (zz v - 1), u, c))) rfl rfl ?_
  refine G_top (congrFun (congrFun e4 _) _) ?_
  refine G_steps 1 (S1 := (if v 4 (ix (v 12 (gg v k) 2)) 6 = 0 then 37 else 26, [some (Sum.inr (Sum.inl (0, 0))), some (Sum.inl (nI k)), some (Sum.inr (Sum.inl (12, gg v k))), some (Sum.inr (Sum.inl (4, ix (v 12 (gg v k) 2))))], [], (c_tk v (gg v) k (zz v - 1), u, c))) rfl rfl ?_
  refine G_if (fun h1 => ?_) (fun h1 => ?_)
  · skip
    refine G_steps 2 (S1 := (41, [some (Sum.inr (Sum.inl (0, 0))), some (Sum.inl (nI k)), some (Sum.inr (Sum.inl (12, gg v k))), some (Sum.inr (Sum.inl (4, ix (v 12 (gg v k) 2))))], [Sum.inl ((c_tk v (gg v) k (zz v - 1)) 12 (gg v k) 0)], (c_tk v (gg v) k (zz v - 1), u, c))) rfl rfl ?_
    exact G_fin rfl (congrArg (fun z => some (Sum.inl z)) (congrFun (congrFun e12 _) _)) (M_1 (by rw [c_arr, if_pos h1]))
  · skip
    refine G_steps 2 (S1 := (28, [some (Sum.inr (Sum.inl (0, 0))), some (Sum.inl (nI k)), some (Sum.inr (Sum.inl (12, gg v k))), some (Sum.inr (Sum.inl (4, ix (v 12 (gg v k) 2))))], [Sum.inr (Sum.inl (12, gg v k)), Sum.inr (Sum.inl (4, ix (v 12 (gg v k) 2)))], (c_tk v (gg v) k (zz v - 1), u, c))) rfl rfl ?_
    refine G_call (y := none) (M1 := (c_hN (c_tk v (gg v) k (zz v - 1)) (ix (v 12 (gg v k) 2)) (gg v k) (ix (v 12 (gg v k) 6)), u, c)) rfl rfl (e_hearAll _ hn hw1.1 hm.2.1.2 ((congrFun (congrFun e12 _) _).trans hm.2.2.1.1) hm.2.2.1.2 hnd) ?_
    refine G_is (S' := (31, [some (Sum.inr (Sum.inl (0, 0))), some (Sum.inl (nI k)), some (Sum.inr (Sum.inl (12, gg v k))), some (Sum.inr (Sum.inl (4, ix (v 12 (gg v k) 2))))], [], (c_hN (c_tk v (gg v) k (zz v - 1)) (ix (v 12 (gg v k) 2)) (gg v k) (ix (v 12 (gg v k) 6)), u, c))) rfl ?_
    refine G_steps 3 (S1 := (34, [some (Sum.inr (Sum.inl (0, 0))), some (Sum.inl (nI k)), some (Sum.inr (Sum.inl (12, gg v k))), some (Sum.inr (Sum.inl (4, ix (v 12 (gg v k) 2))))], [Sum.inr (Sum.inl (12, gg v k)), Sum.inr (Sum.inl (4, ix (v 12 (gg v k) 2))), Sum.inr (Sum.inl (0, 0))], (c_hN (c_tk v (gg v) k (zz v - 1)) (ix (v 12 (gg v k) 2)) (gg v k) (ix (v 12 (gg v k) 6)), u, c))) rfl rfl ?_
    refine G_call (y := none) (M1 := (c_re n (c_hN (c_tk v (gg v) k (zz v - 1)) (ix (v 12 (gg v k) 2)) (gg v k) (ix (v 12 (gg v k) 6))) (ix (v 12 (gg v k) 2)) (gg v k), u, c)) rfl rfl (e_react _ hn hc (wc_hN hw1) hm.2.1.2 (by rw [hN_k (k := 12) rfl, e12]; exact hm.1)) ?_
    refine G_is (S' := (37, [some (Sum.inr (Sum.inl (0, 0))), some (Sum.inl (nI k)), some (Sum.inr (Sum.inl (12, gg v k))), some (Sum.inr (Sum.inl (4, ix (v 12 (gg v k) 2))))], [], (c_re n (c_hN (c_tk v (gg v) k (zz v - 1)) (ix (v 12 (gg v k) 2)) (gg v k) (ix (v 12 (gg v k) 6))) (ix (v 12 (gg v k) 2)) (gg v k), u, c))) rfl ?_
    refine G_steps 2 (S1 := (41, [some (Sum.inr (Sum.inl (0, 0))), some (Sum.inl (nI k)), some (Sum.inr (Sum.inl (12, gg v k))), some (Sum.inr (Sum.inl (4, ix (v 12 (gg v k) 2))))], [Sum.inl ((c_re n (c_hN (c_tk v (gg v) k (zz v - 1)) (ix (v 12 (gg v k) 2)) (gg v k) (ix (v 12 (gg v k) 6))) (ix (v 12 (gg v k) 2)) (gg v k)) 12 (gg v k) 0)], (c_re n (c_hN (c_tk v (gg v) k (zz v - 1)) (ix (v 12 (gg v k) 2)) (gg v k) (ix (v 12 (gg v k) 6))) (ix (v 12 (gg v k) 2)) (gg v k), u, c))) rfl rfl ?_
    exact G_fin rfl (congrArg (fun z => some (Sum.inl z)) ((re_12 hlast 0).trans (by rw [hN_k (k := 12) rfl, e12]))) (M_1 (by rw [c_arr, if_neg h1]))
