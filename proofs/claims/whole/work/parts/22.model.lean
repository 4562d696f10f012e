def rw_ (u : mV) : Nat := ix (u 20 0 13)
def W_M (n : Nat) (u : mV) : Prop := F_m n u ∧ u 20 0 13 = nI (rw_ u) ∧ rw_ u ≤ 24
theorem wm_of {n : Nat} {u w : mV} (h : W_M n u) (h2 : w 20 = u 20) : W_M n w := by
  unfold W_M F_m rw_ at *
  rw [h2]
  exact h
def M_24 (n : Nat) (u : mV) : Prop := (u 35 0 24 = nI (ix (u 35 0 24)) ∧ ix (u 35 0 24) < n) ∧ (u 39 0 24 = nI (ix (u 39 0 24)) ∧ ix (u 39 0 24) ≤ 2) ∧ ∀ j, j < ix (u 39 0 24) → u 40 0 (48 + j) = nI (ix (u 40 0 (48 + j))) ∧ ix (u 40 0 (48 + j)) < n
def d_hN (u : mV) (b : Nat) : Nat → mV
  | 0 => u
  | j + 1 => d_hear (d_hN u b j) b (ix (u 40 0 (48 + j))) (u 41 0 (48 + j)) (u 42 0 (48 + j))
theorem dhN_k {u : mV} {b j : Nat} {k : Nat} (h : (Nat.beq k 22 || (Nat.beq k 23 || (Nat.beq k 24 || (Nat.beq k 25 || (Nat.beq k 26 || (Nat.beq k 27 || Nat.beq k 28)))))) = false) : d_hN u b j k = u k := by
  induction j with
  | zero => rfl
  | succ j ih => exact (dhear_k h).trans ih
def d_rx (n : Nat) (u : mV) (b : Nat) : mV :=
  if u 33 0 24 = 1 then d_send n u b 2 (u 34 0 24) (u 36 0 24) (u 37 0 24) (u 38 0 24) (rw_ u)
  else if u 33 0 24 = 3 then d_send n u b 1 (u 37 0 24) (u 36 0 24) (u 37 0 24) (u 38 0 24) (rw_ u)
  else if nI b = u 36 0 24 then (if u 31 0 b < 0 then u else if u 30 0 b = u 38 0 24 then m_u3 u 32 0 b 1 else u)
  else d_send n u b 2 (u 36 0 24) (u 36 0 24) (u 37 0 24) (u 38 0 24) (rw_ u)
def d_rs (n : Nat) (u : mV) : mV := if u 21 0 (ix (u 35 0 24)) = 0 then d_rx n (d_hN u (ix (u 35 0 24)) (ix (u 39 0 24))) (ix (u 35 0 24)) else u
def d_arr (n : Nat) (u : mV) (k : Nat) : mV := d_rs n (d_to u k (rw_ u - 1))
theorem to_20 {u : mV} {k r : Nat} : d_to u k r 20 0 0 = u 20 0 0 ∧ d_to u k r 20 0 13 = nI r := by
  unfold d_to
  rw [tl_k (k' := 20) rfl]
  exact ⟨by rw [u3_n (by omega), cp_k (k' := 20) rfl], u3_s⟩
theorem wm_to {n : Nat} {u : mV} {k : Nat} (h : W_M n u) : W_M n (d_to u k (rw_ u - 1)) := by
  obtain ⟨e1, e2⟩ := to_20 (u := u) (k := k) (r := rw_ u - 1)
  have hb := h.2.2
  have e3 : rw_ (d_to u k (rw_ u - 1)) = rw_ u - 1 := by
    show ix (d_to u k (rw_ u - 1) 20 0 13) = _
    rw [e2, ix_nI (by omega)]
  exact ⟨e1.trans h.1, by rw [e3]; exact e2, by rw [e3]; omega⟩
def d_ag1 (u : mV) (a m : Nat) : mV := if nI m = nI a then u else if u 22 0 (6 * a + m) = 1 then (if u 24 0 (6 * a + m) + 1 = 3 then d_ann (m_u3 (m_u3 (m_u3 u 24 0 (6 * a + m) (u 24 0 (6 * a + m) + 1)) 24 0 (6 * a + m) 0) 22 0 (6 * a + m) 2) a m 2 (u 23 0 (6 * a + m)) else m_u3 u 24 0 (6 * a + m) (u 24 0 (6 * a + m) + 1)) else u
def d_ag (u : mV) (a : Nat) : Nat → mV
  | 0 => u
  | k + 1 => d_ag1 (d_ag u a k) a k
theorem dag_k {u : mV} {a j : Nat} {k : Nat} (h : (Nat.beq k 22 || (Nat.beq k 24 || (Nat.beq k 25 || (Nat.beq k 26 || (Nat.beq k 27 || Nat.beq k 28))))) = false) : d_ag u a j k = u k := by
  simp only [Bool.or_eq_false_iff] at h
  obtain ⟨h22, h24, h25⟩ := h
  have ha : ∀ (w : mV) (a m : Nat) (s i : Int32), d_ann w a m s i k = w k := fun w a m s i => ann_k (by simp only [Bool.or_eq_false_iff]; exact h25)
  induction j with
  | zero => rfl
  | succ j ih =>
    refine Eq.trans ?_ ih
    show d_ag1 (d_ag u a j) a j k = _
    unfold d_ag1
    split
    · rfl
    · split
      · split
        · rw [ha, u3_k h22, u3_k h24, u3_k h24]
        · rw [u3_k h24]
      · rfl
def d_db (u : mV) (a : Nat) (o : Option Nat) : mV := match o with
  | none => u
  | some t => if u 32 0 a = 0 then (if u 22 0 (6 * a + t) = 0 then d_ann (m_u3 (m_u3 u 22 0 (6 * a + t) 1) 24 0 (6 * a + t) 0) a t 1 (u 23 0 (6 * a + t)) else u) else u
theorem ddb_k {u : mV} {a : Nat} {o : Option Nat} {k : Nat} (h : (Nat.beq k 22 || (Nat.beq k 24 || (Nat.beq k 25 || (Nat.beq k 26 || (Nat.beq k 27 || Nat.beq k 28))))) = false) : d_db u a o k = u k := by
  simp only [Bool.or_eq_false_iff] at h
  obtain ⟨h22, h24, h25⟩ := h
  cases o with
  | none => rfl
  | some t =>
    unfold d_db
    dsimp only
    split
    · split
      · rw [ann_k (by simp only [Bool.or_eq_false_iff]; exact h25), u3_k h24, u3_k h22]
      · rfl
    · rfl
def d_wk (u : mV) (a : Nat) : Int32 := if u 21 0 a = 0 then 1 else 0
def d_wt (u : mV) (a : Nat) : Int32 := if u 21 0 a = 0 then (if u 31 0 a < 0 then 0 else if u 32 0 a = 0 then 1 else 0) else 0
def d_nx (n : Nat) (u : mV) (a t : Nat) : Nat → Option Nat
  | 0 => none
  | j + 1 => if nI ((t + (n - j)) % n) = nI a then d_nx n u a t j else if u 22 0 (6 * a + (t + (n - j)) % n) = 2 then d_nx n u a t j else some ((t + (n - j)) % n)
theorem dnx_lt {n : Nat} {u : mV} {a t : Nat} (hn : 0 < n) : ∀ (j s : Nat), d_nx n u a t j = some s → s < n := by
  intro j
  induction j with
  | zero => intro s h; cases h
  | succ j ih =>
    intro s h
    unfold d_nx at h
    split at h
    · exact ih s h
    · split at h
      · exact ih s h
      · cases h
        exact Nat.mod_lt _ hn
def d_u2 (n : Nat) (u : mV) (a : Nat) : mV := d_db (d_ag u a n) a (rO (u 31 0 a))
def d_mo (n : Nat) (u : mV) (a : Nat) : Option Nat := d_nx n (d_u2 n u a) a (ix (u 29 0 a)) n
def d_u4 (u : mV) (a : Nat) (o : Option Nat) : mV := m_u3 (m_u3 (m_u3 (m_u3 u 31 0 a (oI o)) 32 0 a 0) 29 0 a (oI o)) 30 0 a (u 30 0 a + 1)
def d_pd (n : Nat) (u : mV) (a : Nat) : mV := if oI (d_mo n u a) < 0 then m_u3 (m_u3 (d_u2 n u a) 31 0 a (oI (d_mo n u a))) 32 0 a 0 else d_send n (d_u4 (d_u2 n u a) a (d_mo n u a)) a 1 (oI (d_mo n u a)) (nI a) (oI (d_mo n u a)) (d_u2 n u a 30 0 a + 1) (rw_ u)
def d_hl (n : Nat) (u : mV) (a t : Nat) : Nat → Nat × mV
  | 0 => (0, u)
  | j + 1 => if 2 ≤ nI (d_hl n u a t j).1 then d_hl n u a t j else if nI ((t + (1 + j)) % n) = nI a then d_hl n u a t j else if (d_hl n u a t j).2 22 0 (6 * a + (t + (1 + j)) % n) = 2 then d_hl n u a t j else ((d_hl n u a t j).1 + 1, d_send n (d_hl n u a t j).2 a 3 (nI ((t + (1 + j)) % n)) (nI a) (nI t) ((d_hl n u a t j).2 30 0 a) (rw_ (d_hl n u a t j).2))
theorem c2_k {u : mV} {a r : Nat} {f g : Option Nat} {k : Nat} (h : (Nat.beq k 39 || (Nat.beq k 40 || (Nat.beq k 41 || Nat.beq k 42))) = false) : d_c2 u a r f g k = u k := by
  cases f with
  | none => rfl
  | some f =>
    cases g with
    | none => exact car_k h
    | some g => exact (car_k h).trans (car_k h)
theorem dsend_k {n a r : Nat} {kd to og tg pn : Int32} {u : mV} {k : Nat} (h : (Nat.beq k 20 || (Nat.beq k 25 || (Nat.beq k 28 || (Nat.beq k 33 || (Nat.beq k 34 || (Nat.beq k 35 || (Nat.beq k 36 || (Nat.beq k 37 || (Nat.beq k 38 || (Nat.beq k 39 || (Nat.beq k 40 || (Nat.beq k 41 || Nat.beq k 42)))))))))))) = false) : d_send n u a kd to og tg pn r k = u k := by
  simp only [Bool.or_eq_false_iff] at h
  obtain ⟨h20, h25, h28, h33, h34, h35, h36, h37, h38, h39, h40⟩ := h
  unfold d_send
  rw [sp_k (by rw [h25, h28]; rfl), sp_k (by rw [h25, h28]; rfl)]
  split
  · rfl
  · rw [u3_k h20, c2_k (by simp only [Bool.or_eq_false_iff]; exact ⟨h39, h40⟩)]
    unfold d_f7
    rw [u3_k h39, u3_k h38, u3_k h37, u3_k h36, u3_k h35, u3_k h34, u3_k h33]
theorem dsend_0 {n a r : Nat} {kd to og tg pn : Int32} {u : mV} : d_send n u a kd to og tg pn r 20 0 0 = u 20 0 0 := by
  unfold d_send
  rw [sp_k rfl, sp_k rfl]
  split
  · rfl
  · rw [u3_n (by omega), c2_k rfl]
    unfold d_f7
    rw [u3_k (k' := 20) rfl, u3_k (k' := 20) rfl, u3_k (k' := 20) rfl, u3_k (k' := 20) rfl, u3_k (k' := 20) rfl, u3_k (k' := 20) rfl, u3_k (k' := 20) rfl]
theorem dsend_13 {n a r : Nat} {kd to og tg pn : Int32} {u : mV} (hr : u 20 0 13 = nI r) (hr2 : r ≤ 24) : d_send n u a kd to og tg pn r 20 0 13 = nI (if r < 24 then r + 1 else r) := by
  unfold d_send
  rw [sp_k rfl, sp_k rfl]
  by_cases h : r < 24
  · have hc : ¬ (24 : Int32) ≤ nI r := fun q => absurd ((nI_le' (a := 24) (b := r) (by omega) (by omega)).mp q) (by omega)
    rw [if_neg hc, if_pos h, u3_s]
  · have hc : (24 : Int32) ≤ nI r := (nI_le' (a := 24) (b := r) (by omega) (by omega)).mpr (by omega)
    rw [if_pos hc, if_neg h, hr]
theorem wm_send {n a : Nat} {kd to og tg pn : Int32} {u : mV} (h : W_M n u) : W_M n (d_send n u a kd to og tg pn (rw_ u)) := by
  have e1 := dsend_13 (n := n) (a := a) (kd := kd) (to := to) (og := og) (tg := tg) (pn := pn) h.2.1 h.2.2
  have hb : (if rw_ u < 24 then rw_ u + 1 else rw_ u) ≤ 24 := by have := h.2.2; split <;> omega
  have e3 : rw_ (d_send n u a kd to og tg pn (rw_ u)) = if rw_ u < 24 then rw_ u + 1 else rw_ u := by
    show ix (d_send n u a kd to og tg pn (rw_ u) 20 0 13) = _
    rw [e1, ix_nI (by omega)]
  exact ⟨dsend_0.trans h.1, by rw [e3]; exact e1, by rw [e3]; exact hb⟩
theorem dec_nI {k : Nat} (h : 0 < k) : nI k + -1 = nI (k - 1) := by
  have e := nI_pred (k - 1)
  rw [show k - 1 + 1 = k by omega] at e
  rw [← e, Int32.sub_eq_add_neg]
theorem nI_nz {n : Nat} (h : 0 < n) (h2 : n ≤ 6) : (!(decide (nI n = 0))) = true := by
  have : ¬ nI n = 0 := nI_ne0 h (by omega)
  simp [this]
theorem oI_neg {o : Option Nat} (h : ∀ t, o = some t → t < 6) : oI o < 0 ↔ o = none := by
  cases o with
  | none => exact ⟨fun _ => rfl, fun _ => by decide⟩
  | some t => exact ⟨fun z => absurd z (nI_pos (by have := h t rfl; omega)), fun z => by cases z⟩
set_option maxRecDepth 100000 in
theorem e_m_arrive (d : Nat) {n L : Nat} {xs : Nat → Int32} {v u : mV} {c : Nat} {k : Nat} (hn : n ≤ 6) (hw : W_M n u) (hk : k < rw_ u) (h24 : M_24 n (d_to u k (rw_ u - 1))) : E_v false n L xs (d + 3) 51 [Sum.inr (Sum.inl (20, 0)), Sum.inl (nI k)] (v, u, c) none (v, d_arr n u k, c) := by
  refine E_mk mc_51 (by decide) ?_
  have hr24 := hw.2.2
  have hr1 : u 20 0 13 = nI (rw_ u - 1 + 1) := by
    rw [show rw_ u - 1 + 1 = rw_ u by omega]
    exact hw.2.1
  have hwD := wm_to (k := k) hw
  refine G_steps 2 (S1 := (2, [some (Sum.inr (Sum.inl (20, 0))), some (Sum.inl (nI k)), none, none], [Sum.inl (nI k), Sum.inr (Sum.inl (20, 0))], (v, u, c))) rfl rfl ?_
  refine G_call (y := none) (M1 := (v, d_to u k (rw_ u - 1), c)) rfl rfl (e_m_takeOut _ hr1 (by omega) (by omega)) ?_
  refine G_is (S' := (5, [some (Sum.inr (Sum.inl (20, 0))), some (Sum.inl (nI k)), none, none], [], (v, d_to u k (rw_ u - 1), c))) rfl ?_
  generalize hD : d_to u k (rw_ u - 1) = D at *
  refine G_steps 3 (S1 := (11, [some (Sum.inr (Sum.inl (20, 0))), some (Sum.inl (nI k)), none, none], [Sum.inl 24, Sum.inr (Sum.inl (35, 0))], (v, D, c))) rfl rfl ?_
  refine G_step (S1 := (12, [some (Sum.inr (Sum.inl (20, 0))), some (Sum.inl (nI k)), none, none], [Sum.inl (D 35 0 (ix 24))], (v, D, c))) rfl (ib_nI (j := 24) (len := 25) (by omega) (by omega)) ?_
  rw [show ix 24 = 24 from rfl]
  refine G_top h24.1.1 ?_
  refine G_steps 4 (S1 := (18, [some (Sum.inr (Sum.inl (20, 0))), some (Sum.inl (nI k)), some (Sum.inl (nI (ix (D 35 0 24)))), none], [Sum.inl (nI (ix (D 35 0 24))), Sum.inr (Sum.inl (21, 0))], (v, D, c))) rfl rfl ?_
  refine G_step (S1 := (19, [some (Sum.inr (Sum.inl (20, 0))), some (Sum.inl (nI k)), some (Sum.inl (nI (ix (D 35 0 24)))), none], [Sum.inl (D 21 0 (ix (nI (ix (D 35 0 24)))))], (v, D, c))) rfl (ib_nI (j := ix (D 35 0 24)) (len := 6) (by have := h24.1.2; omega) (by omega)) ?_
  rw [ix_nI (j := (ix (D 35 0 24))) (by have := h24.1.2; omega)]
  refine G_steps 1 (S1 := (if D 21 0 (ix (D 35 0 24)) = 0 then 23 else 22, [some (Sum.inr (Sum.inl (20, 0))), some (Sum.inl (nI k)), some (Sum.inl (nI (ix (D 35 0 24)))), none], [], (v, D, c))) rfl rfl ?_
  refine G_if (fun h1 => ?_) (fun h1 => ?_)
  · skip
    refine G_steps 2 (S1 := (25, [some (Sum.inr (Sum.inl (20, 0))), some (Sum.inl (nI k)), some (Sum.inl (nI (ix (D 35 0 24)))), some (Sum.inl 0)], [], (v, D, c))) rfl rfl ?_
    refine G_is (S' := (25, [some (Sum.inr (Sum.inl (20, 0))), some (Sum.inl (nI k)), some (Sum.inl (nI (ix (D 35 0 24)))), some (Sum.inl (nI 0))], [], (v, d_hN D (ix (D 35 0 24)) 0, c))) rfl ?_
    refine G_loop (S := fun j => (25, [some (Sum.inr (Sum.inl (20, 0))), some (Sum.inl (nI k)), some (Sum.inl (nI (ix (D 35 0 24)))), some (Sum.inl (nI j))], [], (v, d_hN D (ix (D 35 0 24)) j, c))) (N := ix (D 39 0 24)) (fun j hj K => ?_) ?_
    · skip
      refine G_steps 4 (S1 := (32, [some (Sum.inr (Sum.inl (20, 0))), some (Sum.inl (nI k)), some (Sum.inl (nI (ix (D 35 0 24)))), some (Sum.inl (nI j))], [Sum.inl 24, Sum.inr (Sum.inl (39, 0)), Sum.inl (nI j)], (v, d_hN D (ix (D 35 0 24)) j, c))) rfl rfl ?_
      refine G_step (S1 := (33, [some (Sum.inr (Sum.inl (20, 0))), some (Sum.inl (nI k)), some (Sum.inl (nI (ix (D 35 0 24)))), some (Sum.inl (nI j))], [Sum.inl ((d_hN D (ix (D 35 0 24)) j) 39 0 (ix 24)), Sum.inl (nI j)], (v, d_hN D (ix (D 35 0 24)) j, c))) rfl (ib_nI (j := 24) (len := 25) (by omega) (by omega)) ?_
      rw [show ix 24 = 24 from rfl]
      refine G_top ((congrFun (congrFun (dhN_k (k := 39) rfl) 0) 24).trans h24.2.1.1) ?_
      refine G_steps 1 (S1 := (if nI (ix (D 39 0 24)) ≤ nI j then 74 else 36, [some (Sum.inr (Sum.inl (20, 0))), some (Sum.inl (nI k)), some (Sum.inl (nI (ix (D 35 0 24)))), some (Sum.inl (nI j))], [], (v, d_hN D (ix (D 35 0 24)) j, c))) rfl rfl ?_
      refine G_iF (fun z => absurd ((nI_le' (by have := h24.2.1.2; omega) (by have := h24.2.1.2; omega)).mp z) (by omega)) ?_
      refine G_steps 7 (S1 := (46, [some (Sum.inr (Sum.inl (20, 0))), some (Sum.inl (nI k)), some (Sum.inl (nI (ix (D 35 0 24)))), some (Sum.inl (nI j))], [Sum.inl (48 + (nI j)), Sum.inr (Sum.inl (40, 0)), Sum.inl (nI (ix (D 35 0 24))), Sum.inr (Sum.inl (20, 0))], (v, d_hN D (ix (D 35 0 24)) j, c))) rfl rfl ?_
      refine G_top (nI_ad 48 j) ?_
      refine G_step (S1 := (47, [some (Sum.inr (Sum.inl (20, 0))), some (Sum.inl (nI k)), some (Sum.inl (nI (ix (D 35 0 24)))), some (Sum.inl (nI j))], [Sum.inl ((d_hN D (ix (D 35 0 24)) j) 40 0 (ix (nI (48 + j)))), Sum.inl (nI (ix (D 35 0 24))), Sum.inr (Sum.inl (20, 0))], (v, d_hN D (ix (D 35 0 24)) j, c))) rfl (ib_nI (j := 48 + j) (len := 50) (by have := h24.2.1.2; omega) (by omega)) ?_
      rw [ix_nI (j := (48 + j)) (by have := h24.2.1.2; omega)]
      refine G_top ((congrFun (congrFun (dhN_k (k := 40) rfl) 0) (48 + j)).trans (h24.2.2 j hj).1) ?_
      refine G_steps 5 (S1 := (55, [some (Sum.inr (Sum.inl (20, 0))), some (Sum.inl (nI k)), some (Sum.inl (nI (ix (D 35 0 24)))), some (Sum.inl (nI j))], [Sum.inl (48 + (nI j)), Sum.inr (Sum.inl (41, 0)), Sum.inl (nI (ix (D 40 0 (48 + j)))), Sum.inl (nI (ix (D 35 0 24))), Sum.inr (Sum.inl (20, 0))], (v, d_hN D (ix (D 35 0 24)) j, c))) rfl rfl ?_
      refine G_top (nI_ad 48 j) ?_
      refine G_step (S1 := (56, [some (Sum.inr (Sum.inl (20, 0))), some (Sum.inl (nI k)), some (Sum.inl (nI (ix (D 35 0 24)))), some (Sum.inl (nI j))], [Sum.inl ((d_hN D (ix (D 35 0 24)) j) 41 0 (ix (nI (48 + j)))), Sum.inl (nI (ix (D 40 0 (48 + j)))), Sum.inl (nI (ix (D 35 0 24))), Sum.inr (Sum.inl (20, 0))], (v, d_hN D (ix (D 35 0 24)) j, c))) rfl (ib_nI (j := 48 + j) (len := 50) (by have := h24.2.1.2; omega) (by omega)) ?_
      rw [ix_nI (j := (48 + j)) (by have := h24.2.1.2; omega)]
      refine G_top (congrFun (congrFun (dhN_k (k := 41) rfl) 0) (48 + j)) ?_
      refine G_steps 5 (S1 := (64, [some (Sum.inr (Sum.inl (20, 0))), some (Sum.inl (nI k)), some (Sum.inl (nI (ix (D 35 0 24)))), some (Sum.inl (nI j))], [Sum.inl (48 + (nI j)), Sum.inr (Sum.inl (42, 0)), Sum.inl (D 41 0 (48 + j)), Sum.inl (nI (ix (D 40 0 (48 + j)))), Sum.inl (nI (ix (D 35 0 24))), Sum.inr (Sum.inl (20, 0))], (v, d_hN D (ix (D 35 0 24)) j, c))) rfl rfl ?_
      refine G_top (nI_ad 48 j) ?_
      refine G_step (S1 := (65, [some (Sum.inr (Sum.inl (20, 0))), some (Sum.inl (nI k)), some (Sum.inl (nI (ix (D 35 0 24)))), some (Sum.inl (nI j))], [Sum.inl ((d_hN D (ix (D 35 0 24)) j) 42 0 (ix (nI (48 + j)))), Sum.inl (D 41 0 (48 + j)), Sum.inl (nI (ix (D 40 0 (48 + j)))), Sum.inl (nI (ix (D 35 0 24))), Sum.inr (Sum.inl (20, 0))], (v, d_hN D (ix (D 35 0 24)) j, c))) rfl (ib_nI (j := 48 + j) (len := 50) (by have := h24.2.1.2; omega) (by omega)) ?_
      rw [ix_nI (j := (48 + j)) (by have := h24.2.1.2; omega)]
      refine G_top (congrFun (congrFun (dhN_k (k := 42) rfl) 0) (48 + j)) ?_
      refine G_call (y := none) (M1 := (v, d_hear (d_hN D (ix (D 35 0 24)) j) (ix (D 35 0 24)) (ix (D 40 0 (48 + j))) (D 41 0 (48 + j)) (D 42 0 (48 + j)), c)) rfl rfl (e_m_hear _ hn h24.1.2 (h24.2.2 j hj).2) ?_
      refine G_is (S' := (68, [some (Sum.inr (Sum.inl (20, 0))), some (Sum.inl (nI k)), some (Sum.inl (nI (ix (D 35 0 24)))), some (Sum.inl (nI j))], [], (v, d_hear (d_hN D (ix (D 35 0 24)) j) (ix (D 35 0 24)) (ix (D 40 0 (48 + j))) (D 41 0 (48 + j)) (D 42 0 (48 + j)), c))) rfl ?_
      refine G_steps 2 (S1 := (25, [some (Sum.inr (Sum.inl (20, 0))), some (Sum.inl (nI k)), some (Sum.inl (nI (ix (D 35 0 24)))), some (Sum.inl ((nI j) + 1))], [], (v, d_hear (d_hN D (ix (D 35 0 24)) j) (ix (D 35 0 24)) (ix (D 40 0 (48 + j))) (D 41 0 (48 + j)) (D 42 0 (48 + j)), c))) rfl rfl ?_
      exact G_is (by rw [← nI_succ]; rfl) K
    · skip
      refine G_steps 4 (S1 := (32, [some (Sum.inr (Sum.inl (20, 0))), some (Sum.inl (nI k)), some (Sum.inl (nI (ix (D 35 0 24)))), some (Sum.inl (nI (ix (D 39 0 24))))], [Sum.inl 24, Sum.inr (Sum.inl (39, 0)), Sum.inl (nI (ix (D 39 0 24)))], (v, d_hN D (ix (D 35 0 24)) (ix (D 39 0 24)), c))) rfl rfl ?_
      refine G_step (S1 := (33, [some (Sum.inr (Sum.inl (20, 0))), some (Sum.inl (nI k)), some (Sum.inl (nI (ix (D 35 0 24)))), some (Sum.inl (nI (ix (D 39 0 24))))], [Sum.inl ((d_hN D (ix (D 35 0 24)) (ix (D 39 0 24))) 39 0 (ix 24)), Sum.inl (nI (ix (D 39 0 24)))], (v, d_hN D (ix (D 35 0 24)) (ix (D 39 0 24)), c))) rfl (ib_nI (j := 24) (len := 25) (by omega) (by omega)) ?_
      rw [show ix 24 = 24 from rfl]
      refine G_top ((congrFun (congrFun (dhN_k (k := 39) rfl) 0) 24).trans h24.2.1.1) ?_
      refine G_steps 1 (S1 := (if nI (ix (D 39 0 24)) ≤ nI (ix (D 39 0 24)) then 74 else 36, [some (Sum.inr (Sum.inl (20, 0))), some (Sum.inl (nI k)), some (Sum.inl (nI (ix (D 35 0 24)))), some (Sum.inl (nI (ix (D 39 0 24))))], [], (v, d_hN D (ix (D 35 0 24)) (ix (D 39 0 24)), c))) rfl rfl ?_
      refine G_iT ((nI_le' (by have := h24.2.1.2; omega) (by have := h24.2.1.2; omega)).mpr (Nat.le_refl _)) ?_
      skip
      have hwE : W_M n (d_hN D (ix (D 35 0 24)) (ix (D 39 0 24))) := wm_of hwD (dhN_k (k := 20) rfl)
      have hbn := h24.1.2
      generalize hE : d_hN D (ix (D 35 0 24)) (ix (D 39 0 24)) = E at *
      generalize hbe : ix (D 35 0 24) = b at *
      refine G_steps 3 (S1 := (80, [some (Sum.inr (Sum.inl (20, 0))), some (Sum.inl (nI k)), some (Sum.inl (nI b)), some (Sum.inl (nI (ix (D 39 0 24))))], [Sum.inl 24, Sum.inr (Sum.inl (36, 0))], (v, E, c))) rfl rfl ?_
      refine G_step (S1 := (81, [some (Sum.inr (Sum.inl (20, 0))), some (Sum.inl (nI k)), some (Sum.inl (nI b)), some (Sum.inl (nI (ix (D 39 0 24))))], [Sum.inl (E 36 0 (ix 24))], (v, E, c))) rfl (ib_nI (j := 24) (len := 25) (by omega) (by omega)) ?_
      rw [show ix 24 = 24 from rfl]
      refine G_steps 4 (S1 := (88, [some (Sum.inr (Sum.inl (20, 0))), some (Sum.inl (nI k)), some (Sum.inl (nI b)), some (Sum.inl (E 36 0 24))], [Sum.inl 24, Sum.inr (Sum.inl (33, 0))], (v, E, c))) rfl rfl ?_
      refine G_step (S1 := (89, [some (Sum.inr (Sum.inl (20, 0))), some (Sum.inl (nI k)), some (Sum.inl (nI b)), some (Sum.inl (E 36 0 24))], [Sum.inl (E 33 0 (ix 24))], (v, E, c))) rfl (ib_nI (j := 24) (len := 25) (by omega) (by omega)) ?_
      rw [show ix 24 = 24 from rfl]
      refine G_steps 2 (S1 := (if ¬ E 33 0 24 = 1 then 124 else 93, [some (Sum.inr (Sum.inl (20, 0))), some (Sum.inl (nI k)), some (Sum.inl (nI b)), some (Sum.inl (E 36 0 24))], [], (v, E, c))) rfl rfl ?_
      refine G_ifn (fun h2 => ?_) (fun h2 => ?_)
      · skip
        refine G_steps 3 (S1 := (130, [some (Sum.inr (Sum.inl (20, 0))), some (Sum.inl (nI k)), some (Sum.inl (nI b)), some (Sum.inl (E 36 0 24))], [Sum.inl 24, Sum.inr (Sum.inl (33, 0))], (v, E, c))) rfl rfl ?_
        refine G_step (S1 := (131, [some (Sum.inr (Sum.inl (20, 0))), some (Sum.inl (nI k)), some (Sum.inl (nI b)), some (Sum.inl (E 36 0 24))], [Sum.inl (E 33 0 (ix 24))], (v, E, c))) rfl (ib_nI (j := 24) (len := 25) (by omega) (by omega)) ?_
        rw [show ix 24 = 24 from rfl]
        refine G_steps 2 (S1 := (if ¬ E 33 0 24 = 3 then 166 else 135, [some (Sum.inr (Sum.inl (20, 0))), some (Sum.inl (nI k)), some (Sum.inl (nI b)), some (Sum.inl (E 36 0 24))], [], (v, E, c))) rfl rfl ?_
        refine G_ifn (fun h3 => ?_) (fun h3 => ?_)
        · skip
          refine G_steps 3 (S1 := (if nI b = E 36 0 24 then 196 else 171, [some (Sum.inr (Sum.inl (20, 0))), some (Sum.inl (nI k)), some (Sum.inl (nI b)), some (Sum.inl (E 36 0 24))], [], (v, E, c))) rfl rfl ?_
          refine G_if (fun h4 => ?_) (fun h4 => ?_)
          · skip
            refine G_steps 3 (S1 := (201, [some (Sum.inr (Sum.inl (20, 0))), some (Sum.inl (nI k)), some (Sum.inl (nI b)), some (Sum.inl (E 36 0 24))], [Sum.inl (nI b), Sum.inr (Sum.inl (31, 0))], (v, E, c))) rfl rfl ?_
            refine G_step (S1 := (202, [some (Sum.inr (Sum.inl (20, 0))), some (Sum.inl (nI k)), some (Sum.inl (nI b)), some (Sum.inl (E 36 0 24))], [Sum.inl (E 31 0 (ix (nI b)))], (v, E, c))) rfl (ib_nI (j := b) (len := 6) (by omega) (by omega)) ?_
            rw [ix_nI (j := b) (by omega)]
            refine G_steps 1 (S1 := (if E 31 0 b < 0 then 228 else 205, [some (Sum.inr (Sum.inl (20, 0))), some (Sum.inl (nI k)), some (Sum.inl (nI b)), some (Sum.inl (E 36 0 24))], [], (v, E, c))) rfl rfl ?_
            refine G_if (fun h5 => ?_) (fun h5 => ?_)
            · skip
              exact G_fin rfl rfl (M_2 (by rw [d_arr, hD, d_rs, hbe, if_pos h1, hE, d_rx, if_neg h2, if_neg h3, if_pos h4, if_pos h5]))
            · skip
              refine G_steps 3 (S1 := (210, [some (Sum.inr (Sum.inl (20, 0))), some (Sum.inl (nI k)), some (Sum.inl (nI b)), some (Sum.inl (E 36 0 24))], [Sum.inl (nI b), Sum.inr (Sum.inl (30, 0))], (v, E, c))) rfl rfl ?_
              refine G_step (S1 := (211, [some (Sum.inr (Sum.inl (20, 0))), some (Sum.inl (nI k)), some (Sum.inl (nI b)), some (Sum.inl (E 36 0 24))], [Sum.inl (E 30 0 (ix (nI b)))], (v, E, c))) rfl (ib_nI (j := b) (len := 6) (by omega) (by omega)) ?_
              rw [ix_nI (j := b) (by omega)]
              refine G_steps 3 (S1 := (217, [some (Sum.inr (Sum.inl (20, 0))), some (Sum.inl (nI k)), some (Sum.inl (nI b)), some (Sum.inl (E 36 0 24))], [Sum.inl 24, Sum.inr (Sum.inl (38, 0)), Sum.inl (E 30 0 b)], (v, E, c))) rfl rfl ?_
              refine G_step (S1 := (218, [some (Sum.inr (Sum.inl (20, 0))), some (Sum.inl (nI k)), some (Sum.inl (nI b)), some (Sum.inl (E 36 0 24))], [Sum.inl (E 38 0 (ix 24)), Sum.inl (E 30 0 b)], (v, E, c))) rfl (ib_nI (j := 24) (len := 25) (by omega) (by omega)) ?_
              rw [show ix 24 = 24 from rfl]
              refine G_steps 1 (S1 := (if ¬ E 30 0 b = E 38 0 24 then 228 else 221, [some (Sum.inr (Sum.inl (20, 0))), some (Sum.inl (nI k)), some (Sum.inl (nI b)), some (Sum.inl (E 36 0 24))], [], (v, E, c))) rfl rfl ?_
              refine G_ifn (fun h6 => ?_) (fun h6 => ?_)
              · skip
                exact G_fin rfl rfl (M_2 (by rw [d_arr, hD, d_rs, hbe, if_pos h1, hE, d_rx, if_neg h2, if_neg h3, if_pos h4, if_neg h5, if_neg h6]))
              · skip
                refine G_steps 4 (S1 := (227, [some (Sum.inr (Sum.inl (20, 0))), some (Sum.inl (nI k)), some (Sum.inl (nI b)), some (Sum.inl (E 36 0 24))], [Sum.inl 1, Sum.inl (nI b), Sum.inr (Sum.inl (32, 0))], (v, E, c))) rfl rfl ?_
                refine G_step (S1 := (228, [some (Sum.inr (Sum.inl (20, 0))), some (Sum.inl (nI k)), some (Sum.inl (nI b)), some (Sum.inl (E 36 0 24))], [], (v, m_u3 E 32 0 (ix (nI b)) 1, c))) rfl (ib_b (ib_nI (j := b) (len := 6) (by omega) (by omega)) rfl) ?_
                rw [ix_nI (j := b) (by omega)]
                exact G_fin rfl rfl (M_2 (by rw [d_arr, hD, d_rs, hbe, if_pos h1, hE, d_rx, if_neg h2, if_neg h3, if_pos h4, if_neg h5, if_pos h6]))
          · skip
            refine G_steps 8 (S1 := (182, [some (Sum.inr (Sum.inl (20, 0))), some (Sum.inl (nI k)), some (Sum.inl (nI b)), some (Sum.inl (E 36 0 24))], [Sum.inl 24, Sum.inr (Sum.inl (37, 0)), Sum.inl (E 36 0 24), Sum.inl (E 36 0 24), Sum.inl (nI b), Sum.inl 2, Sum.inr (Sum.inl (20, 0))], (v, E, c))) rfl rfl ?_
            refine G_step (S1 := (183, [some (Sum.inr (Sum.inl (20, 0))), some (Sum.inl (nI k)), some (Sum.inl (nI b)), some (Sum.inl (E 36 0 24))], [Sum.inl (E 37 0 (ix 24)), Sum.inl (E 36 0 24), Sum.inl (E 36 0 24), Sum.inl (nI b), Sum.inl 2, Sum.inr (Sum.inl (20, 0))], (v, E, c))) rfl (ib_nI (j := 24) (len := 25) (by omega) (by omega)) ?_
            rw [show ix 24 = 24 from rfl]
            refine G_steps 3 (S1 := (189, [some (Sum.inr (Sum.inl (20, 0))), some (Sum.inl (nI k)), some (Sum.inl (nI b)), some (Sum.inl (E 36 0 24))], [Sum.inl 24, Sum.inr (Sum.inl (38, 0)), Sum.inl (E 37 0 24), Sum.inl (E 36 0 24), Sum.inl (E 36 0 24), Sum.inl (nI b), Sum.inl 2, Sum.inr (Sum.inl (20, 0))], (v, E, c))) rfl rfl ?_
            refine G_step (S1 := (190, [some (Sum.inr (Sum.inl (20, 0))), some (Sum.inl (nI k)), some (Sum.inl (nI b)), some (Sum.inl (E 36 0 24))], [Sum.inl (E 38 0 (ix 24)), Sum.inl (E 37 0 24), Sum.inl (E 36 0 24), Sum.inl (E 36 0 24), Sum.inl (nI b), Sum.inl 2, Sum.inr (Sum.inl (20, 0))], (v, E, c))) rfl (ib_nI (j := 24) (len := 25) (by omega) (by omega)) ?_
            rw [show ix 24 = 24 from rfl]
            refine G_call (y := none) (M1 := (v, d_send n E b 2 (E 36 0 24) (E 36 0 24) (E 37 0 24) (E 38 0 24) (rw_ E), c)) rfl rfl (e_m_send _ hn hwE.1 hbn hwE.2.1 hwE.2.2) ?_
            refine G_is (S' := (193, [some (Sum.inr (Sum.inl (20, 0))), some (Sum.inl (nI k)), some (Sum.inl (nI b)), some (Sum.inl (E 36 0 24))], [], (v, d_send n E b 2 (E 36 0 24) (E 36 0 24) (E 37 0 24) (E 38 0 24) (rw_ E), c))) rfl ?_
            refine G_steps 1 (S1 := (228, [some (Sum.inr (Sum.inl (20, 0))), some (Sum.inl (nI k)), some (Sum.inl (nI b)), some (Sum.inl (E 36 0 24))], [], (v, d_send n E b 2 (E 36 0 24) (E 36 0 24) (E 37 0 24) (E 38 0 24) (rw_ E), c))) rfl rfl ?_
            exact G_fin rfl rfl (M_2 (by rw [d_arr, hD, d_rs, hbe, if_pos h1, hE, d_rx, if_neg h2, if_neg h3, if_neg h4]))
        · skip
          refine G_steps 6 (S1 := (144, [some (Sum.inr (Sum.inl (20, 0))), some (Sum.inl (nI k)), some (Sum.inl (nI b)), some (Sum.inl (E 36 0 24))], [Sum.inl 24, Sum.inr (Sum.inl (37, 0)), Sum.inl (nI b), Sum.inl 1, Sum.inr (Sum.inl (20, 0))], (v, E, c))) rfl rfl ?_
          refine G_step (S1 := (145, [some (Sum.inr (Sum.inl (20, 0))), some (Sum.inl (nI k)), some (Sum.inl (nI b)), some (Sum.inl (E 36 0 24))], [Sum.inl (E 37 0 (ix 24)), Sum.inl (nI b), Sum.inl 1, Sum.inr (Sum.inl (20, 0))], (v, E, c))) rfl (ib_nI (j := 24) (len := 25) (by omega) (by omega)) ?_
          rw [show ix 24 = 24 from rfl]
          refine G_steps 4 (S1 := (152, [some (Sum.inr (Sum.inl (20, 0))), some (Sum.inl (nI k)), some (Sum.inl (nI b)), some (Sum.inl (E 36 0 24))], [Sum.inl 24, Sum.inr (Sum.inl (37, 0)), Sum.inl (E 36 0 24), Sum.inl (E 37 0 24), Sum.inl (nI b), Sum.inl 1, Sum.inr (Sum.inl (20, 0))], (v, E, c))) rfl rfl ?_
          refine G_step (S1 := (153, [some (Sum.inr (Sum.inl (20, 0))), some (Sum.inl (nI k)), some (Sum.inl (nI b)), some (Sum.inl (E 36 0 24))], [Sum.inl (E 37 0 (ix 24)), Sum.inl (E 36 0 24), Sum.inl (E 37 0 24), Sum.inl (nI b), Sum.inl 1, Sum.inr (Sum.inl (20, 0))], (v, E, c))) rfl (ib_nI (j := 24) (len := 25) (by omega) (by omega)) ?_
          rw [show ix 24 = 24 from rfl]
          refine G_steps 3 (S1 := (159, [some (Sum.inr (Sum.inl (20, 0))), some (Sum.inl (nI k)), some (Sum.inl (nI b)), some (Sum.inl (E 36 0 24))], [Sum.inl 24, Sum.inr (Sum.inl (38, 0)), Sum.inl (E 37 0 24), Sum.inl (E 36 0 24), Sum.inl (E 37 0 24), Sum.inl (nI b), Sum.inl 1, Sum.inr (Sum.inl (20, 0))], (v, E, c))) rfl rfl ?_
          refine G_step (S1 := (160, [some (Sum.inr (Sum.inl (20, 0))), some (Sum.inl (nI k)), some (Sum.inl (nI b)), some (Sum.inl (E 36 0 24))], [Sum.inl (E 38 0 (ix 24)), Sum.inl (E 37 0 24), Sum.inl (E 36 0 24), Sum.inl (E 37 0 24), Sum.inl (nI b), Sum.inl 1, Sum.inr (Sum.inl (20, 0))], (v, E, c))) rfl (ib_nI (j := 24) (len := 25) (by omega) (by omega)) ?_
          rw [show ix 24 = 24 from rfl]
          refine G_call (y := none) (M1 := (v, d_send n E b 1 (E 37 0 24) (E 36 0 24) (E 37 0 24) (E 38 0 24) (rw_ E), c)) rfl rfl (e_m_send _ hn hwE.1 hbn hwE.2.1 hwE.2.2) ?_
          refine G_is (S' := (163, [some (Sum.inr (Sum.inl (20, 0))), some (Sum.inl (nI k)), some (Sum.inl (nI b)), some (Sum.inl (E 36 0 24))], [], (v, d_send n E b 1 (E 37 0 24) (E 36 0 24) (E 37 0 24) (E 38 0 24) (rw_ E), c))) rfl ?_
          refine G_steps 1 (S1 := (228, [some (Sum.inr (Sum.inl (20, 0))), some (Sum.inl (nI k)), some (Sum.inl (nI b)), some (Sum.inl (E 36 0 24))], [], (v, d_send n E b 1 (E 37 0 24) (E 36 0 24) (E 37 0 24) (E 38 0 24) (rw_ E), c))) rfl rfl ?_
          exact G_fin rfl rfl (M_2 (by rw [d_arr, hD, d_rs, hbe, if_pos h1, hE, d_rx, if_neg h2, if_pos h3]))
      · skip
        refine G_steps 6 (S1 := (102, [some (Sum.inr (Sum.inl (20, 0))), some (Sum.inl (nI k)), some (Sum.inl (nI b)), some (Sum.inl (E 36 0 24))], [Sum.inl 24, Sum.inr (Sum.inl (34, 0)), Sum.inl (nI b), Sum.inl 2, Sum.inr (Sum.inl (20, 0))], (v, E, c))) rfl rfl ?_
        refine G_step (S1 := (103, [some (Sum.inr (Sum.inl (20, 0))), some (Sum.inl (nI k)), some (Sum.inl (nI b)), some (Sum.inl (E 36 0 24))], [Sum.inl (E 34 0 (ix 24)), Sum.inl (nI b), Sum.inl 2, Sum.inr (Sum.inl (20, 0))], (v, E, c))) rfl (ib_nI (j := 24) (len := 25) (by omega) (by omega)) ?_
        rw [show ix 24 = 24 from rfl]
        refine G_steps 4 (S1 := (110, [some (Sum.inr (Sum.inl (20, 0))), some (Sum.inl (nI k)), some (Sum.inl (nI b)), some (Sum.inl (E 36 0 24))], [Sum.inl 24, Sum.inr (Sum.inl (37, 0)), Sum.inl (E 36 0 24), Sum.inl (E 34 0 24), Sum.inl (nI b), Sum.inl 2, Sum.inr (Sum.inl (20, 0))], (v, E, c))) rfl rfl ?_
        refine G_step (S1 := (111, [some (Sum.inr (Sum.inl (20, 0))), some (Sum.inl (nI k)), some (Sum.inl (nI b)), some (Sum.inl (E 36 0 24))], [Sum.inl (E 37 0 (ix 24)), Sum.inl (E 36 0 24), Sum.inl (E 34 0 24), Sum.inl (nI b), Sum.inl 2, Sum.inr (Sum.inl (20, 0))], (v, E, c))) rfl (ib_nI (j := 24) (len := 25) (by omega) (by omega)) ?_
        rw [show ix 24 = 24 from rfl]
        refine G_steps 3 (S1 := (117, [some (Sum.inr (Sum.inl (20, 0))), some (Sum.inl (nI k)), some (Sum.inl (nI b)), some (Sum.inl (E 36 0 24))], [Sum.inl 24, Sum.inr (Sum.inl (38, 0)), Sum.inl (E 37 0 24), Sum.inl (E 36 0 24), Sum.inl (E 34 0 24), Sum.inl (nI b), Sum.inl 2, Sum.inr (Sum.inl (20, 0))], (v, E, c))) rfl rfl ?_
        refine G_step (S1 := (118, [some (Sum.inr (Sum.inl (20, 0))), some (Sum.inl (nI k)), some (Sum.inl (nI b)), some (Sum.inl (E 36 0 24))], [Sum.inl (E 38 0 (ix 24)), Sum.inl (E 37 0 24), Sum.inl (E 36 0 24), Sum.inl (E 34 0 24), Sum.inl (nI b), Sum.inl 2, Sum.inr (Sum.inl (20, 0))], (v, E, c))) rfl (ib_nI (j := 24) (len := 25) (by omega) (by omega)) ?_
        rw [show ix 24 = 24 from rfl]
        refine G_call (y := none) (M1 := (v, d_send n E b 2 (E 34 0 24) (E 36 0 24) (E 37 0 24) (E 38 0 24) (rw_ E), c)) rfl rfl (e_m_send _ hn hwE.1 hbn hwE.2.1 hwE.2.2) ?_
        refine G_is (S' := (121, [some (Sum.inr (Sum.inl (20, 0))), some (Sum.inl (nI k)), some (Sum.inl (nI b)), some (Sum.inl (E 36 0 24))], [], (v, d_send n E b 2 (E 34 0 24) (E 36 0 24) (E 37 0 24) (E 38 0 24) (rw_ E), c))) rfl ?_
        refine G_steps 1 (S1 := (228, [some (Sum.inr (Sum.inl (20, 0))), some (Sum.inl (nI k)), some (Sum.inl (nI b)), some (Sum.inl (E 36 0 24))], [], (v, d_send n E b 2 (E 34 0 24) (E 36 0 24) (E 37 0 24) (E 38 0 24) (rw_ E), c))) rfl rfl ?_
        exact G_fin rfl rfl (M_2 (by rw [d_arr, hD, d_rs, hbe, if_pos h1, hE, d_rx, if_pos h2]))
  · skip
    exact G_fin rfl rfl (M_2 (by rw [d_arr, hD, d_rs, if_neg h1]))
