theorem nI_ad (a b : Nat) : nI a + nI b = nI (a + b) := (Int32.ofNat_add a b).symm
theorem nI_mul (a b : Nat) : nI a * nI b = nI (a * b) := (Int32.ofNat_mul a b).symm
theorem nI_rem : ∀ x, x < 13 → ∀ n, n < 7 → 0 < n → nI x - nI x / nI n * nI n = nI (x % n) := by decide +kernel
theorem M_2' {v u w : mV} {c : Nat} (h : u = w) : ((v, u, c) : aM) = (v, w, c) := by rw [h]
def F_m (n : Nat) (u : mV) : Prop := u 20 0 0 = nI n
theorem fm_u3 {n k i j : Nat} {x : Int32} {u : mV} (h : F_m n u) (hk : Nat.beq k 20 = false) : F_m n (m_u3 u k i j x) := by
  unfold F_m
  rw [u3_k (k' := 20) (by cases e : Nat.beq 20 k with | false => rfl | true => rw [← Nat.eq_of_beq_eq_true e] at hk; cases hk)]
  exact h
theorem G_lox {cs : Bool} {n L : Nat} {xs : Nat → Int32} {C : Nat → List aV → aM → Option aV → aM → Prop} {cd : Nat → Option aI} {Z : aS → Prop} {S : Nat → Option aV → aS} {N : Nat} (h : ∀ k, k < N → ∀ o, (∀ o', G_o cs n L xs C cd Z (S (k + 1) o')) → G_o cs n L xs C cd Z (S k o)) (hN : ∀ o, G_o cs n L xs C cd Z (S N o)) : ∀ o, G_o cs n L xs C cd Z (S 0 o) := by
  have : ∀ j, j ≤ N → ∀ o, G_o cs n L xs C cd Z (S (N - j) o) := by
    intro j
    induction j with
    | zero => exact fun _ => hN
    | succ j ih =>
      intro hj o
      refine h (N - (j + 1)) (by omega) o ?_
      rw [show N - (j + 1) + 1 = N - j by omega]
      exact ih (by omega)
  have h0 := this N (Nat.le_refl _)
  rwa [Nat.sub_self] at h0
def d_ann (u : mV) (a m : Nat) (s i : Int32) : mV := m_u3 (m_u3 (m_u3 (m_u3 u 25 0 (6 * a + m) 1) 26 0 (6 * a + m) s) 27 0 (6 * a + m) i) 28 0 (6 * a + m) 0
theorem ann_k {u : mV} {a m : Nat} {s i : Int32} {k : Nat} (h : (Nat.beq k 25 || (Nat.beq k 26 || (Nat.beq k 27 || Nat.beq k 28))) = false) : d_ann u a m s i k = u k := by
  simp only [Bool.or_eq_false_iff] at h
  unfold d_ann
  rw [u3_k h.2.2.2, u3_k h.2.2.1, u3_k h.2.1, u3_k h.1]
def d_nw (s i t j : Int32) : Int32 := if s = 0 then (if t = 2 then 0 else if i ≤ j then 0 else 1) else if s = 1 then (if t = 0 then (if j ≤ i then 1 else if t = 1 then (if i ≤ j then 0 else 1) else 0) else if t = 1 then (if i ≤ j then 0 else 1) else 0) else if t = 2 then 0 else 1
def d_hear (u : mV) (b m : Nat) (s i : Int32) : mV := if nI m = nI b then (if s = 0 then u else if i < u 23 0 (6 * b + m) then u else d_ann (m_u3 u 23 0 (6 * b + m) (i + 1)) b b 0 (i + 1)) else (if d_nw s i (u 22 0 (6 * b + m)) (u 23 0 (6 * b + m)) = 0 then u else d_ann (m_u3 (m_u3 (m_u3 u 22 0 (6 * b + m) s) 23 0 (6 * b + m) i) 24 0 (6 * b + m) 0) b m s i)
theorem dhear_k {u : mV} {b m : Nat} {s i : Int32} {k : Nat} (h : (Nat.beq k 22 || (Nat.beq k 23 || (Nat.beq k 24 || (Nat.beq k 25 || (Nat.beq k 26 || (Nat.beq k 27 || Nat.beq k 28)))))) = false) : d_hear u b m s i k = u k := by
  simp only [Bool.or_eq_false_iff] at h
  obtain ⟨h22, h23, h24, h25⟩ := h
  have ha : ∀ (w : mV) (a m : Nat) (s i : Int32), d_ann w a m s i k = w k := fun w a m s i => ann_k (by simp only [Bool.or_eq_false_iff]; exact h25)
  unfold d_hear
  split
  · split
    · rfl
    · split
      · rfl
      · rw [ha, u3_k h23]
  · split
    · rfl
    · rw [ha, u3_k h24, u3_k h23, u3_k h22]
def d_lo (u : mV) (a : Nat) (e : Int32) : Nat → Option Nat
  | 0 => none
  | k + 1 => match d_lo u a e k with
    | none => if u 25 0 (6 * a + k) = 0 then none else if nI k = e then none else some k
    | some t => if u 25 0 (6 * a + k) = 0 then some t else if nI k = e then some t else if u 28 0 (6 * a + t) ≤ u 28 0 (6 * a + k) then some t else some k
theorem dlo_lt {u : mV} {a : Nat} {e : Int32} : ∀ (k t : Nat), d_lo u a e k = some t → t < k := by
  intro k
  induction k with
  | zero => intro t h; cases h
  | succ k ih =>
    intro t h
    unfold d_lo at h
    split at h
    · split at h
      · cases h
      · split at h <;> cases h
        omega
    · rename_i t2 h2
      have := ih t2 h2
      split at h
      · cases h; omega
      · split at h
        · cases h; omega
        · split at h <;> cases h <;> omega
def d_car (u : mV) (a m r cnt : Nat) : mV := m_u3 (m_u3 (m_u3 (m_u3 u 40 0 (2 * r + cnt) (nI m)) 41 0 (2 * r + cnt) (u 26 0 (6 * a + m))) 42 0 (2 * r + cnt) (u 27 0 (6 * a + m))) 39 0 r (nI (cnt + 1))
def d_sp (u : mV) (a : Nat) (m : Option Nat) : mV := match m with
  | none => u
  | some t => if 6 ≤ u 28 0 (6 * a + t) + 1 then m_u3 (m_u3 u 28 0 (6 * a + t) (u 28 0 (6 * a + t) + 1)) 25 0 (6 * a + t) 0 else m_u3 (m_u3 u 28 0 (6 * a + t) (u 28 0 (6 * a + t) + 1)) 25 0 (6 * a + t) 1
def d_two (n : Nat) (u : mV) (a : Nat) : Option Nat := match d_lo u a (-1) n with
  | none => none
  | some f => d_lo u a (nI f) n
def d_f7 (u : mV) (a : Nat) (kd to og tg pn : Int32) (r : Nat) : mV := m_u3 (m_u3 (m_u3 (m_u3 (m_u3 (m_u3 (m_u3 u 33 0 r kd) 34 0 r (nI a)) 35 0 r to) 36 0 r og) 37 0 r tg) 38 0 r pn) 39 0 r 0
def d_c2 (u : mV) (a r : Nat) (f g : Option Nat) : mV := match f with
  | none => u
  | some f => match g with
    | none => d_car u a f r 0
    | some g => d_car (d_car u a f r 0) a g r 1
def d_send (n : Nat) (u : mV) (a : Nat) (kd to og tg pn : Int32) (r : Nat) : mV := d_sp (d_sp (if 24 ≤ nI r then u else m_u3 (d_c2 (d_f7 u a kd to og tg pn r) a r (d_lo u a (-1) n) (d_two n u a)) 20 0 13 (nI (r + 1))) a (d_lo u a (-1) n)) a (d_two n u a)
theorem car_k {u : mV} {a m r cnt : Nat} {k : Nat} (h : (Nat.beq k 39 || (Nat.beq k 40 || (Nat.beq k 41 || Nat.beq k 42))) = false) : d_car u a m r cnt k = u k := by
  simp only [Bool.or_eq_false_iff] at h
  unfold d_car
  rw [u3_k h.1, u3_k h.2.2.2, u3_k h.2.2.1, u3_k h.2.1]
theorem sp_k {u : mV} {a : Nat} {m : Option Nat} {k : Nat} (h : (Nat.beq k 25 || Nat.beq k 28) = false) : d_sp u a m k = u k := by
  rw [Bool.or_eq_false_iff] at h
  cases m with
  | none => rfl
  | some t =>
    unfold d_sp
    dsimp only
    split
    · rw [u3_k h.1, u3_k h.2]
    · rw [u3_k h.1, u3_k h.2]
def d_cn (u : mV) (k t : Nat) : Nat → mV
  | 0 => u
  | j + 1 => m_u3 (m_u3 (m_u3 (d_cn u k t j) 40 0 (2 * t + j) (d_cn u k t j 40 0 (2 * k + j))) 41 0 (2 * t + j) (d_cn u k t j 41 0 (2 * k + j))) 42 0 (2 * t + j) (d_cn u k t j 42 0 (2 * k + j))
def d_cp (u : mV) (k t : Nat) : mV := d_cn (m_u3 (m_u3 (m_u3 (m_u3 (m_u3 (m_u3 (m_u3 u 33 0 t (u 33 0 k)) 34 0 t (u 34 0 k)) 35 0 t (u 35 0 k)) 36 0 t (u 36 0 k)) 37 0 t (u 37 0 k)) 38 0 t (u 38 0 k)) 39 0 t (u 39 0 k)) k t 2
theorem cn_k {u : mV} {k t j : Nat} {k' : Nat} (h : (Nat.beq k' 40 || (Nat.beq k' 41 || Nat.beq k' 42)) = false) : d_cn u k t j k' = u k' := by
  simp only [Bool.or_eq_false_iff] at h
  induction j with
  | zero => rfl
  | succ j ih =>
    unfold d_cn
    rw [u3_k h.2.2, u3_k h.2.1, u3_k h.1, ih]
theorem cp_k {u : mV} {k t : Nat} {k' : Nat} (h : (Nat.beq k' 33 || (Nat.beq k' 34 || (Nat.beq k' 35 || (Nat.beq k' 36 || (Nat.beq k' 37 || (Nat.beq k' 38 || (Nat.beq k' 39 || (Nat.beq k' 40 || (Nat.beq k' 41 || Nat.beq k' 42))))))))) = false) : d_cp u k t k' = u k' := by
  simp only [Bool.or_eq_false_iff] at h
  obtain ⟨h33, h34, h35, h36, h37, h38, h39, h40⟩ := h
  unfold d_cp
  rw [cn_k (by simp only [Bool.or_eq_false_iff]; exact h40), u3_k h39, u3_k h38, u3_k h37, u3_k h36, u3_k h35, u3_k h34, u3_k h33]
def d_tl (u : mV) (k : Nat) : Nat → mV
  | 0 => u
  | j + 1 => d_cp (d_tl u k j) (k + j + 1) (k + j)
theorem tl_k {u : mV} {k j : Nat} {k' : Nat} (h : (Nat.beq k' 33 || (Nat.beq k' 34 || (Nat.beq k' 35 || (Nat.beq k' 36 || (Nat.beq k' 37 || (Nat.beq k' 38 || (Nat.beq k' 39 || (Nat.beq k' 40 || (Nat.beq k' 41 || Nat.beq k' 42))))))))) = false) : d_tl u k j k' = u k' := by
  induction j with
  | zero => rfl
  | succ j ih => exact (cp_k h).trans ih
def d_to (u : mV) (k r : Nat) : mV := d_tl (m_u3 (d_cp u k 24) 20 0 13 (nI r)) k (r - k)
set_option maxRecDepth 100000 in
theorem e_m_announce (d : Nat) {n L : Nat} {xs : Nat → Int32} {v u : mV} {c : Nat} {a m : Nat} {s i : Int32} (hn : n ≤ 6) (ha : a < n) (hm : m < n) : E_v false n L xs (d + 1) 55 [Sum.inr (Sum.inl (20, 0)), Sum.inl (nI a), Sum.inl (nI m), Sum.inl s, Sum.inl i] (v, u, c) none (v, d_ann u a m s i, c) := by
  refine E_mk mc_55 (by decide) ?_
  refine G_steps 3 (S1 := (4, [some (Sum.inr (Sum.inl (20, 0))), some (Sum.inl (nI a)), some (Sum.inl (nI m)), some (Sum.inl s), some (Sum.inl i), none], [Sum.inl (6 * (nI a))], (v, u, c))) rfl rfl ?_
  refine G_top (nI_mul 6 a) ?_
  refine G_steps 2 (S1 := (6, [some (Sum.inr (Sum.inl (20, 0))), some (Sum.inl (nI a)), some (Sum.inl (nI m)), some (Sum.inl s), some (Sum.inl i), none], [Sum.inl ((nI (6 * a)) + (nI m))], (v, u, c))) rfl rfl ?_
  refine G_top (nI_ad (6 * a) m) ?_
  refine G_steps 5 (S1 := (15, [some (Sum.inr (Sum.inl (20, 0))), some (Sum.inl (nI a)), some (Sum.inl (nI m)), some (Sum.inl s), some (Sum.inl i), some (Sum.inl (nI (6 * a + m)))], [Sum.inl 1, Sum.inl (nI (6 * a + m)), Sum.inr (Sum.inl (25, 0))], (v, u, c))) rfl rfl ?_
  refine G_step (S1 := (16, [some (Sum.inr (Sum.inl (20, 0))), some (Sum.inl (nI a)), some (Sum.inl (nI m)), some (Sum.inl s), some (Sum.inl i), some (Sum.inl (nI (6 * a + m)))], [], (v, m_u3 u 25 0 (ix (nI (6 * a + m))) 1, c))) rfl (ib_b (ib_nI (j := (6 * a + m)) (len := 36) (by omega) (by omega)) rfl) ?_
  rw [ix_nI (j := (6 * a + m)) (by omega)]
  refine G_steps 4 (S1 := (23, [some (Sum.inr (Sum.inl (20, 0))), some (Sum.inl (nI a)), some (Sum.inl (nI m)), some (Sum.inl s), some (Sum.inl i), some (Sum.inl (nI (6 * a + m)))], [Sum.inl s, Sum.inl (nI (6 * a + m)), Sum.inr (Sum.inl (26, 0))], (v, m_u3 u 25 0 (6 * a + m) 1, c))) rfl rfl ?_
  refine G_step (S1 := (24, [some (Sum.inr (Sum.inl (20, 0))), some (Sum.inl (nI a)), some (Sum.inl (nI m)), some (Sum.inl s), some (Sum.inl i), some (Sum.inl (nI (6 * a + m)))], [], (v, m_u3 (m_u3 u 25 0 (6 * a + m) 1) 26 0 (ix (nI (6 * a + m))) s, c))) rfl (ib_nI (j := (6 * a + m)) (len := 36) (by omega) (by omega)) ?_
  rw [ix_nI (j := (6 * a + m)) (by omega)]
  refine G_steps 4 (S1 := (32, [some (Sum.inr (Sum.inl (20, 0))), some (Sum.inl (nI a)), some (Sum.inl (nI m)), some (Sum.inl s), some (Sum.inl i), some (Sum.inl (nI (6 * a + m)))], [Sum.inl i, Sum.inl (nI (6 * a + m)), Sum.inr (Sum.inl (27, 0))], (v, m_u3 (m_u3 u 25 0 (6 * a + m) 1) 26 0 (6 * a + m) s, c))) rfl rfl ?_
  refine G_step (S1 := (33, [some (Sum.inr (Sum.inl (20, 0))), some (Sum.inl (nI a)), some (Sum.inl (nI m)), some (Sum.inl s), some (Sum.inl i), some (Sum.inl (nI (6 * a + m)))], [], (v, m_u3 (m_u3 (m_u3 u 25 0 (6 * a + m) 1) 26 0 (6 * a + m) s) 27 0 (ix (nI (6 * a + m))) i, c))) rfl (ib_nI (j := (6 * a + m)) (len := 36) (by omega) (by omega)) ?_
  rw [ix_nI (j := (6 * a + m)) (by omega)]
  refine G_steps 4 (S1 := (40, [some (Sum.inr (Sum.inl (20, 0))), some (Sum.inl (nI a)), some (Sum.inl (nI m)), some (Sum.inl s), some (Sum.inl i), some (Sum.inl (nI (6 * a + m)))], [Sum.inl 0, Sum.inl (nI (6 * a + m)), Sum.inr (Sum.inl (28, 0))], (v, m_u3 (m_u3 (m_u3 u 25 0 (6 * a + m) 1) 26 0 (6 * a + m) s) 27 0 (6 * a + m) i, c))) rfl rfl ?_
  refine G_step (S1 := (41, [some (Sum.inr (Sum.inl (20, 0))), some (Sum.inl (nI a)), some (Sum.inl (nI m)), some (Sum.inl s), some (Sum.inl i), some (Sum.inl (nI (6 * a + m)))], [], (v, m_u3 (m_u3 (m_u3 (m_u3 u 25 0 (6 * a + m) 1) 26 0 (6 * a + m) s) 27 0 (6 * a + m) i) 28 0 (ix (nI (6 * a + m))) 0, c))) rfl (ib_nI (j := (6 * a + m)) (len := 36) (by omega) (by omega)) ?_
  rw [ix_nI (j := (6 * a + m)) (by omega)]
  exact G_fin rfl rfl (M_2 rfl)
set_option maxRecDepth 100000 in
theorem e_m_isNewer (d : Nat) {n L : Nat} {xs : Nat → Int32} {v u : mV} {c : Nat} {s i t j : Int32} : E_v false n L xs (d + 1) 56 [Sum.inr (Sum.inl (20, 0)), Sum.inl s, Sum.inl i, Sum.inl t, Sum.inl j] (v, u, c) (some (Sum.inl (d_nw s i t j))) (v, u, c) := by
  refine E_mk mc_56 (by decide) ?_
  refine G_steps 2 (S1 := (if ¬ s = 0 then 21 else 4, [some (Sum.inr (Sum.inl (20, 0))), some (Sum.inl s), some (Sum.inl i), some (Sum.inl t), some (Sum.inl j)], [], (v, u, c))) rfl rfl ?_
  refine G_ifn (fun h1 => ?_) (fun h1 => ?_)
  · skip
    refine G_steps 3 (S1 := (if ¬ s = 1 then 53 else 26, [some (Sum.inr (Sum.inl (20, 0))), some (Sum.inl s), some (Sum.inl i), some (Sum.inl t), some (Sum.inl j)], [], (v, u, c))) rfl rfl ?_
    refine G_ifn (fun h2 => ?_) (fun h2 => ?_)
    · skip
      refine G_steps 3 (S1 := (if t = 2 then 62 else 58, [some (Sum.inr (Sum.inl (20, 0))), some (Sum.inl s), some (Sum.inl i), some (Sum.inl t), some (Sum.inl j)], [], (v, u, c))) rfl rfl ?_
      refine G_if (fun h3 => ?_) (fun h3 => ?_)
      · skip
        refine G_steps 1 (S1 := (63, [some (Sum.inr (Sum.inl (20, 0))), some (Sum.inl s), some (Sum.inl i), some (Sum.inl t), some (Sum.inl j)], [Sum.inl 0], (v, u, c))) rfl rfl ?_
        exact G_fin rfl (by simp only [d_nw, if_neg h1, if_neg h2, if_pos h3]) rfl
      · skip
        refine G_steps 2 (S1 := (63, [some (Sum.inr (Sum.inl (20, 0))), some (Sum.inl s), some (Sum.inl i), some (Sum.inl t), some (Sum.inl j)], [Sum.inl 1], (v, u, c))) rfl rfl ?_
        exact G_fin rfl (by simp only [d_nw, if_neg h1, if_neg h2, if_neg h3]) rfl
    · skip
      refine G_steps 2 (S1 := (if ¬ t = 0 then 36 else 30, [some (Sum.inr (Sum.inl (20, 0))), some (Sum.inl s), some (Sum.inl i), some (Sum.inl t), some (Sum.inl j)], [], (v, u, c))) rfl rfl ?_
      refine G_ifn (fun h4 => ?_) (fun h4 => ?_)
      · skip
        refine G_steps 3 (S1 := (if ¬ t = 1 then 51 else 41, [some (Sum.inr (Sum.inl (20, 0))), some (Sum.inl s), some (Sum.inl i), some (Sum.inl t), some (Sum.inl j)], [], (v, u, c))) rfl rfl ?_
        refine G_ifn (fun h5 => ?_) (fun h5 => ?_)
        · skip
          refine G_steps 1 (S1 := (52, [some (Sum.inr (Sum.inl (20, 0))), some (Sum.inl s), some (Sum.inl i), some (Sum.inl t), some (Sum.inl j)], [Sum.inl 0], (v, u, c))) rfl rfl ?_
          exact G_fin rfl (by simp only [d_nw, if_neg h1, if_pos h2, if_neg h4, if_neg h5]) rfl
        · skip
          refine G_steps 3 (S1 := (if i ≤ j then 51 else 47, [some (Sum.inr (Sum.inl (20, 0))), some (Sum.inl s), some (Sum.inl i), some (Sum.inl t), some (Sum.inl j)], [], (v, u, c))) rfl rfl ?_
          refine G_if (fun h6 => ?_) (fun h6 => ?_)
          · skip
            refine G_steps 1 (S1 := (52, [some (Sum.inr (Sum.inl (20, 0))), some (Sum.inl s), some (Sum.inl i), some (Sum.inl t), some (Sum.inl j)], [Sum.inl 0], (v, u, c))) rfl rfl ?_
            exact G_fin rfl (by simp only [d_nw, if_neg h1, if_pos h2, if_neg h4, if_pos h5, if_pos h6]) rfl
          · skip
            refine G_steps 2 (S1 := (52, [some (Sum.inr (Sum.inl (20, 0))), some (Sum.inl s), some (Sum.inl i), some (Sum.inl t), some (Sum.inl j)], [Sum.inl 1], (v, u, c))) rfl rfl ?_
            exact G_fin rfl (by simp only [d_nw, if_neg h1, if_pos h2, if_neg h4, if_pos h5, if_neg h6]) rfl
      · skip
        refine G_steps 3 (S1 := (if j ≤ i then 47 else 36, [some (Sum.inr (Sum.inl (20, 0))), some (Sum.inl s), some (Sum.inl i), some (Sum.inl t), some (Sum.inl j)], [], (v, u, c))) rfl rfl ?_
        refine G_if (fun h7 => ?_) (fun h7 => ?_)
        · skip
          refine G_steps 2 (S1 := (52, [some (Sum.inr (Sum.inl (20, 0))), some (Sum.inl s), some (Sum.inl i), some (Sum.inl t), some (Sum.inl j)], [Sum.inl 1], (v, u, c))) rfl rfl ?_
          exact G_fin rfl (by simp only [d_nw, if_neg h1, if_pos h2, if_pos h4, if_pos h7]) rfl
        · skip
          refine G_steps 3 (S1 := (if ¬ t = 1 then 51 else 41, [some (Sum.inr (Sum.inl (20, 0))), some (Sum.inl s), some (Sum.inl i), some (Sum.inl t), some (Sum.inl j)], [], (v, u, c))) rfl rfl ?_
          refine G_ifn (fun h8 => ?_) (fun h8 => ?_)
          · skip
            refine G_steps 1 (S1 := (52, [some (Sum.inr (Sum.inl (20, 0))), some (Sum.inl s), some (Sum.inl i), some (Sum.inl t), some (Sum.inl j)], [Sum.inl 0], (v, u, c))) rfl rfl ?_
            exact G_fin rfl (by simp only [d_nw, if_neg h1, if_pos h2, if_pos h4, if_neg h7, if_neg h8]) rfl
          · skip
            refine G_steps 3 (S1 := (if i ≤ j then 51 else 47, [some (Sum.inr (Sum.inl (20, 0))), some (Sum.inl s), some (Sum.inl i), some (Sum.inl t), some (Sum.inl j)], [], (v, u, c))) rfl rfl ?_
            refine G_if (fun h9 => ?_) (fun h9 => ?_)
            · skip
              refine G_steps 1 (S1 := (52, [some (Sum.inr (Sum.inl (20, 0))), some (Sum.inl s), some (Sum.inl i), some (Sum.inl t), some (Sum.inl j)], [Sum.inl 0], (v, u, c))) rfl rfl ?_
              exact G_fin rfl (by simp only [d_nw, if_neg h1, if_pos h2, if_pos h4, if_neg h7, if_pos h8, if_pos h9]) rfl
            · skip
              refine G_steps 2 (S1 := (52, [some (Sum.inr (Sum.inl (20, 0))), some (Sum.inl s), some (Sum.inl i), some (Sum.inl t), some (Sum.inl j)], [Sum.inl 1], (v, u, c))) rfl rfl ?_
              exact G_fin rfl (by simp only [d_nw, if_neg h1, if_pos h2, if_pos h4, if_neg h7, if_pos h8, if_neg h9]) rfl
  · skip
    refine G_steps 3 (S1 := (if t = 2 then 19 else 9, [some (Sum.inr (Sum.inl (20, 0))), some (Sum.inl s), some (Sum.inl i), some (Sum.inl t), some (Sum.inl j)], [], (v, u, c))) rfl rfl ?_
    refine G_if (fun h10 => ?_) (fun h10 => ?_)
    · skip
      refine G_steps 1 (S1 := (20, [some (Sum.inr (Sum.inl (20, 0))), some (Sum.inl s), some (Sum.inl i), some (Sum.inl t), some (Sum.inl j)], [Sum.inl 0], (v, u, c))) rfl rfl ?_
      exact G_fin rfl (by simp only [d_nw, if_pos h1, if_pos h10]) rfl
    · skip
      refine G_steps 3 (S1 := (if i ≤ j then 19 else 15, [some (Sum.inr (Sum.inl (20, 0))), some (Sum.inl s), some (Sum.inl i), some (Sum.inl t), some (Sum.inl j)], [], (v, u, c))) rfl rfl ?_
      refine G_if (fun h11 => ?_) (fun h11 => ?_)
      · skip
        refine G_steps 1 (S1 := (20, [some (Sum.inr (Sum.inl (20, 0))), some (Sum.inl s), some (Sum.inl i), some (Sum.inl t), some (Sum.inl j)], [Sum.inl 0], (v, u, c))) rfl rfl ?_
        exact G_fin rfl (by simp only [d_nw, if_pos h1, if_neg h10, if_pos h11]) rfl
      · skip
        refine G_steps 2 (S1 := (20, [some (Sum.inr (Sum.inl (20, 0))), some (Sum.inl s), some (Sum.inl i), some (Sum.inl t), some (Sum.inl j)], [Sum.inl 1], (v, u, c))) rfl rfl ?_
        exact G_fin rfl (by simp only [d_nw, if_pos h1, if_neg h10, if_neg h11]) rfl
set_option maxRecDepth 100000 in
theorem e_m_hear (d : Nat) {n L : Nat} {xs : Nat → Int32} {v u : mV} {c : Nat} {b m : Nat} {s i : Int32} (hn : n ≤ 6) (hb : b < n) (hm : m < n) : E_v false n L xs (d + 2) 54 [Sum.inr (Sum.inl (20, 0)), Sum.inl (nI b), Sum.inl (nI m), Sum.inl s, Sum.inl i] (v, u, c) none (v, d_hear u b m s i, c) := by
  refine E_mk mc_54 (by decide) ?_
  refine G_steps 3 (S1 := (4, [some (Sum.inr (Sum.inl (20, 0))), some (Sum.inl (nI b)), some (Sum.inl (nI m)), some (Sum.inl s), some (Sum.inl i), none], [Sum.inl (6 * (nI b))], (v, u, c))) rfl rfl ?_
  refine G_top (nI_mul 6 b) ?_
  refine G_steps 2 (S1 := (6, [some (Sum.inr (Sum.inl (20, 0))), some (Sum.inl (nI b)), some (Sum.inl (nI m)), some (Sum.inl s), some (Sum.inl i), none], [Sum.inl ((nI (6 * b)) + (nI m))], (v, u, c))) rfl rfl ?_
  refine G_top (nI_ad (6 * b) m) ?_
  refine G_steps 4 (S1 := (if ¬ nI m = nI b then 52 else 13, [some (Sum.inr (Sum.inl (20, 0))), some (Sum.inl (nI b)), some (Sum.inl (nI m)), some (Sum.inl s), some (Sum.inl i), some (Sum.inl (nI (6 * b + m)))], [], (v, u, c))) rfl rfl ?_
  refine G_ifn (fun h1 => ?_) (fun h1 => ?_)
  · skip
    refine G_steps 6 (S1 := (62, [some (Sum.inr (Sum.inl (20, 0))), some (Sum.inl (nI b)), some (Sum.inl (nI m)), some (Sum.inl s), some (Sum.inl i), some (Sum.inl (nI (6 * b + m)))], [Sum.inl (nI (6 * b + m)), Sum.inr (Sum.inl (22, 0)), Sum.inl i, Sum.inl s, Sum.inr (Sum.inl (20, 0))], (v, u, c))) rfl rfl ?_
    refine G_step (S1 := (63, [some (Sum.inr (Sum.inl (20, 0))), some (Sum.inl (nI b)), some (Sum.inl (nI m)), some (Sum.inl s), some (Sum.inl i), some (Sum.inl (nI (6 * b + m)))], [Sum.inl (u 22 0 (ix (nI (6 * b + m)))), Sum.inl i, Sum.inl s, Sum.inr (Sum.inl (20, 0))], (v, u, c))) rfl (ib_nI (j := (6 * b + m)) (len := 36) (by omega) (by omega)) ?_
    rw [ix_nI (j := (6 * b + m)) (by omega)]
    refine G_steps 3 (S1 := (69, [some (Sum.inr (Sum.inl (20, 0))), some (Sum.inl (nI b)), some (Sum.inl (nI m)), some (Sum.inl s), some (Sum.inl i), some (Sum.inl (nI (6 * b + m)))], [Sum.inl (nI (6 * b + m)), Sum.inr (Sum.inl (23, 0)), Sum.inl (u 22 0 (6 * b + m)), Sum.inl i, Sum.inl s, Sum.inr (Sum.inl (20, 0))], (v, u, c))) rfl rfl ?_
    refine G_step (S1 := (70, [some (Sum.inr (Sum.inl (20, 0))), some (Sum.inl (nI b)), some (Sum.inl (nI m)), some (Sum.inl s), some (Sum.inl i), some (Sum.inl (nI (6 * b + m)))], [Sum.inl (u 23 0 (ix (nI (6 * b + m)))), Sum.inl (u 22 0 (6 * b + m)), Sum.inl i, Sum.inl s, Sum.inr (Sum.inl (20, 0))], (v, u, c))) rfl (ib_nI (j := (6 * b + m)) (len := 36) (by omega) (by omega)) ?_
    rw [ix_nI (j := (6 * b + m)) (by omega)]
    refine G_call (y := some (Sum.inl (d_nw s i (u 22 0 (6 * b + m)) (u 23 0 (6 * b + m))))) (M1 := (v, u, c)) rfl rfl (e_m_isNewer _) ?_
    refine G_is (S' := (73, [some (Sum.inr (Sum.inl (20, 0))), some (Sum.inl (nI b)), some (Sum.inl (nI m)), some (Sum.inl s), some (Sum.inl i), some (Sum.inl (nI (6 * b + m)))], [Sum.inl (d_nw s i (u 22 0 (6 * b + m)) (u 23 0 (6 * b + m)))], (v, u, c))) rfl ?_
    refine G_steps 1 (S1 := (if d_nw s i (u 22 0 (6 * b + m)) (u 23 0 (6 * b + m)) = 0 then 110 else 76, [some (Sum.inr (Sum.inl (20, 0))), some (Sum.inl (nI b)), some (Sum.inl (nI m)), some (Sum.inl s), some (Sum.inl i), some (Sum.inl (nI (6 * b + m)))], [], (v, u, c))) rfl rfl ?_
    refine G_if (fun h2 => ?_) (fun h2 => ?_)
    · skip
      exact G_fin rfl rfl (M_2 (by simp only [d_hear, if_neg h1, if_pos h2]))
    · skip
      refine G_steps 4 (S1 := (83, [some (Sum.inr (Sum.inl (20, 0))), some (Sum.inl (nI b)), some (Sum.inl (nI m)), some (Sum.inl s), some (Sum.inl i), some (Sum.inl (nI (6 * b + m)))], [Sum.inl s, Sum.inl (nI (6 * b + m)), Sum.inr (Sum.inl (22, 0))], (v, u, c))) rfl rfl ?_
      refine G_step (S1 := (84, [some (Sum.inr (Sum.inl (20, 0))), some (Sum.inl (nI b)), some (Sum.inl (nI m)), some (Sum.inl s), some (Sum.inl i), some (Sum.inl (nI (6 * b + m)))], [], (v, m_u3 u 22 0 (ix (nI (6 * b + m))) s, c))) rfl (ib_nI (j := (6 * b + m)) (len := 36) (by omega) (by omega)) ?_
      rw [ix_nI (j := (6 * b + m)) (by omega)]
      refine G_steps 4 (S1 := (92, [some (Sum.inr (Sum.inl (20, 0))), some (Sum.inl (nI b)), some (Sum.inl (nI m)), some (Sum.inl s), some (Sum.inl i), some (Sum.inl (nI (6 * b + m)))], [Sum.inl i, Sum.inl (nI (6 * b + m)), Sum.inr (Sum.inl (23, 0))], (v, m_u3 u 22 0 (6 * b + m) s, c))) rfl rfl ?_
      refine G_step (S1 := (93, [some (Sum.inr (Sum.inl (20, 0))), some (Sum.inl (nI b)), some (Sum.inl (nI m)), some (Sum.inl s), some (Sum.inl i), some (Sum.inl (nI (6 * b + m)))], [], (v, m_u3 (m_u3 u 22 0 (6 * b + m) s) 23 0 (ix (nI (6 * b + m))) i, c))) rfl (ib_nI (j := (6 * b + m)) (len := 36) (by omega) (by omega)) ?_
      rw [ix_nI (j := (6 * b + m)) (by omega)]
      refine G_steps 4 (S1 := (100, [some (Sum.inr (Sum.inl (20, 0))), some (Sum.inl (nI b)), some (Sum.inl (nI m)), some (Sum.inl s), some (Sum.inl i), some (Sum.inl (nI (6 * b + m)))], [Sum.inl 0, Sum.inl (nI (6 * b + m)), Sum.inr (Sum.inl (24, 0))], (v, m_u3 (m_u3 u 22 0 (6 * b + m) s) 23 0 (6 * b + m) i, c))) rfl rfl ?_
      refine G_step (S1 := (101, [some (Sum.inr (Sum.inl (20, 0))), some (Sum.inl (nI b)), some (Sum.inl (nI m)), some (Sum.inl s), some (Sum.inl i), some (Sum.inl (nI (6 * b + m)))], [], (v, m_u3 (m_u3 (m_u3 u 22 0 (6 * b + m) s) 23 0 (6 * b + m) i) 24 0 (ix (nI (6 * b + m))) 0, c))) rfl (ib_nI (j := (6 * b + m)) (len := 36) (by omega) (by omega)) ?_
      rw [ix_nI (j := (6 * b + m)) (by omega)]
      refine G_steps 5 (S1 := (107, [some (Sum.inr (Sum.inl (20, 0))), some (Sum.inl (nI b)), some (Sum.inl (nI m)), some (Sum.inl s), some (Sum.inl i), some (Sum.inl (nI (6 * b + m)))], [Sum.inl i, Sum.inl s, Sum.inl (nI m), Sum.inl (nI b), Sum.inr (Sum.inl (20, 0))], (v, m_u3 (m_u3 (m_u3 u 22 0 (6 * b + m) s) 23 0 (6 * b + m) i) 24 0 (6 * b + m) 0, c))) rfl rfl ?_
      refine G_call (y := none) (M1 := (v, d_ann (m_u3 (m_u3 (m_u3 u 22 0 (6 * b + m) s) 23 0 (6 * b + m) i) 24 0 (6 * b + m) 0) b m s i, c)) rfl rfl (e_m_announce _ hn (by omega) (by omega)) ?_
      refine G_is (S' := (110, [some (Sum.inr (Sum.inl (20, 0))), some (Sum.inl (nI b)), some (Sum.inl (nI m)), some (Sum.inl s), some (Sum.inl i), some (Sum.inl (nI (6 * b + m)))], [], (v, d_ann (m_u3 (m_u3 (m_u3 u 22 0 (6 * b + m) s) 23 0 (6 * b + m) i) 24 0 (6 * b + m) 0) b m s i, c))) rfl ?_
      exact G_fin rfl rfl (M_2 (by simp only [d_hear, if_neg h1, if_neg h2]))
  · skip
    refine G_steps 2 (S1 := (if s = 0 then 51 else 17, [some (Sum.inr (Sum.inl (20, 0))), some (Sum.inl (nI b)), some (Sum.inl (nI m)), some (Sum.inl s), some (Sum.inl i), some (Sum.inl (nI (6 * b + m)))], [], (v, u, c))) rfl rfl ?_
    refine G_if (fun h3 => ?_) (fun h3 => ?_)
    · skip
      exact G_fin rfl rfl (M_2 (by simp only [d_hear, if_pos h1, if_pos h3]))
    · skip
      refine G_steps 4 (S1 := (25, [some (Sum.inr (Sum.inl (20, 0))), some (Sum.inl (nI b)), some (Sum.inl (nI m)), some (Sum.inl s), some (Sum.inl i), some (Sum.inl (nI (6 * b + m)))], [Sum.inl (nI (6 * b + m)), Sum.inr (Sum.inl (23, 0)), Sum.inl i], (v, u, c))) rfl rfl ?_
      refine G_step (S1 := (26, [some (Sum.inr (Sum.inl (20, 0))), some (Sum.inl (nI b)), some (Sum.inl (nI m)), some (Sum.inl s), some (Sum.inl i), some (Sum.inl (nI (6 * b + m)))], [Sum.inl (u 23 0 (ix (nI (6 * b + m)))), Sum.inl i], (v, u, c))) rfl (ib_nI (j := (6 * b + m)) (len := 36) (by omega) (by omega)) ?_
      rw [ix_nI (j := (6 * b + m)) (by omega)]
      refine G_steps 1 (S1 := (if i < u 23 0 (6 * b + m) then 51 else 29, [some (Sum.inr (Sum.inl (20, 0))), some (Sum.inl (nI b)), some (Sum.inl (nI m)), some (Sum.inl s), some (Sum.inl i), some (Sum.inl (nI (6 * b + m)))], [], (v, u, c))) rfl rfl ?_
      refine G_if (fun h4 => ?_) (fun h4 => ?_)
      · skip
        exact G_fin rfl rfl (M_2 (by simp only [d_hear, if_pos h1, if_neg h3, if_pos h4]))
      · skip
        refine G_steps 6 (S1 := (39, [some (Sum.inr (Sum.inl (20, 0))), some (Sum.inl (nI b)), some (Sum.inl (nI m)), some (Sum.inl s), some (Sum.inl i), some (Sum.inl (nI (6 * b + m)))], [Sum.inl (i + 1), Sum.inl (nI (6 * b + m)), Sum.inr (Sum.inl (23, 0))], (v, u, c))) rfl rfl ?_
        refine G_step (S1 := (40, [some (Sum.inr (Sum.inl (20, 0))), some (Sum.inl (nI b)), some (Sum.inl (nI m)), some (Sum.inl s), some (Sum.inl i), some (Sum.inl (nI (6 * b + m)))], [], (v, m_u3 u 23 0 (ix (nI (6 * b + m))) (i + 1), c))) rfl (ib_nI (j := (6 * b + m)) (len := 36) (by omega) (by omega)) ?_
        rw [ix_nI (j := (6 * b + m)) (by omega)]
        refine G_steps 7 (S1 := (48, [some (Sum.inr (Sum.inl (20, 0))), some (Sum.inl (nI b)), some (Sum.inl (nI m)), some (Sum.inl s), some (Sum.inl i), some (Sum.inl (nI (6 * b + m)))], [Sum.inl (i + 1), Sum.inl 0, Sum.inl (nI b), Sum.inl (nI b), Sum.inr (Sum.inl (20, 0))], (v, m_u3 u 23 0 (6 * b + m) (i + 1), c))) rfl rfl ?_
        refine G_call (y := none) (M1 := (v, d_ann (m_u3 u 23 0 (6 * b + m) (i + 1)) b b 0 (i + 1), c)) rfl rfl (e_m_announce _ hn (by omega) (by omega)) ?_
        refine G_is (S' := (51, [some (Sum.inr (Sum.inl (20, 0))), some (Sum.inl (nI b)), some (Sum.inl (nI m)), some (Sum.inl s), some (Sum.inl i), some (Sum.inl (nI (6 * b + m)))], [], (v, d_ann (m_u3 u 23 0 (6 * b + m) (i + 1)) b b 0 (i + 1), c))) rfl ?_
        exact G_fin rfl rfl (M_2 (by simp only [d_hear, if_pos h1, if_neg h3, if_neg h4]))
set_option maxRecDepth 100000 in
theorem e_m_pick (d : Nat) {n L : Nat} {xs : Nat → Int32} {v u : mV} {c : Nat} {a : Nat} {e : Int32} (hn : n ≤ 6) (hf : F_m n u) (ha : a < n) : E_v false n L xs (d + 1) 58 [Sum.inr (Sum.inl (20, 0)), Sum.inl (nI a), Sum.inl e] (v, u, c) (some (Sum.inl (oI (d_lo u a e n)))) (v, u, c) := by
  refine E_mk mc_58 (by decide) ?_
  refine G_steps 4 (S1 := (5, [some (Sum.inr (Sum.inl (20, 0))), some (Sum.inl (nI a)), some (Sum.inl e), some (Sum.inl (oI (d_lo u a e 0))), some (Sum.inl (nI 0)), none], [], (v, u, c))) rfl rfl ?_
  refine G_lox (S := fun k o => (5, [some (Sum.inr (Sum.inl (20, 0))), some (Sum.inl (nI a)), some (Sum.inl e), some (Sum.inl (oI (d_lo u a e k))), some (Sum.inl (nI k)), o], [], (v, u, c))) (N := n) (fun k hk o K => ?_) (fun o => ?_) none
  · skip
    cases hp : d_lo u a e k with
    | none =>
      refine G_is (S' := (5, [some (Sum.inr (Sum.inl (20, 0))), some (Sum.inl (nI a)), some (Sum.inl e), some (Sum.inl (-1)), some (Sum.inl (nI k)), o], [], (v, u, c))) rfl ?_
      refine G_steps 3 (S1 := (11, [some (Sum.inr (Sum.inl (20, 0))), some (Sum.inl (nI a)), some (Sum.inl e), some (Sum.inl (-1)), some (Sum.inl (nI k)), o], [Sum.inl (u 20 0 0), Sum.inl (nI k)], (v, u, c))) rfl rfl ?_
      refine G_top hf ?_
      refine G_steps 1 (S1 := (if nI n ≤ nI k then 90 else 14, [some (Sum.inr (Sum.inl (20, 0))), some (Sum.inl (nI a)), some (Sum.inl e), some (Sum.inl (-1)), some (Sum.inl (nI k)), o], [], (v, u, c))) rfl rfl ?_
      refine G_iF (fun z => absurd ((nI_le' (by omega) (by omega)).mp z) (by omega)) ?_
      refine G_steps 2 (S1 := (if (-1) < 0 then 44 else 18, [some (Sum.inr (Sum.inl (20, 0))), some (Sum.inl (nI a)), some (Sum.inl e), some (Sum.inl (-1)), some (Sum.inl (nI k)), o], [], (v, u, c))) rfl rfl ?_
      refine G_iT (by decide) ?_
      refine G_steps 8 (S1 := (59, [some (Sum.inr (Sum.inl (20, 0))), some (Sum.inl (nI a)), some (Sum.inl e), some (Sum.inl (-1)), some (Sum.inl (nI k)), some (Sum.inl 1)], [Sum.inl (6 * (nI a)), Sum.inr (Sum.inl (25, 0))], (v, u, c))) rfl rfl ?_
      refine G_top (nI_mul 6 a) ?_
      refine G_steps 2 (S1 := (62, [some (Sum.inr (Sum.inl (20, 0))), some (Sum.inl (nI a)), some (Sum.inl e), some (Sum.inl (-1)), some (Sum.inl (nI k)), some (Sum.inl 1)], [Sum.inl ((nI (6 * a)) + (nI k)), Sum.inr (Sum.inl (25, 0))], (v, u, c))) rfl rfl ?_
      refine G_top (nI_ad (6 * a) k) ?_
      refine G_step (S1 := (63, [some (Sum.inr (Sum.inl (20, 0))), some (Sum.inl (nI a)), some (Sum.inl e), some (Sum.inl (-1)), some (Sum.inl (nI k)), some (Sum.inl 1)], [Sum.inl (u 25 0 (ix (nI (6 * a + k))))], (v, u, c))) rfl (ib_nI (j := (6 * a + k)) (len := 36) (by omega) (by omega)) ?_
      rw [ix_nI (j := (6 * a + k)) (by omega)]
      refine G_steps 1 (S1 := (if u 25 0 (6 * a + k) = 0 then 82 else 66, [some (Sum.inr (Sum.inl (20, 0))), some (Sum.inl (nI a)), some (Sum.inl e), some (Sum.inl (-1)), some (Sum.inl (nI k)), some (Sum.inl 1)], [], (v, u, c))) rfl rfl ?_
      refine G_if (fun h1 => ?_) (fun h1 => ?_)
      · skip
        refine G_steps 4 (S1 := (5, [some (Sum.inr (Sum.inl (20, 0))), some (Sum.inl (nI a)), some (Sum.inl e), some (Sum.inl (-1)), some (Sum.inl ((nI k) + 1)), some (Sum.inl 1)], [], (v, u, c))) rfl rfl ?_
        exact G_is (by simp only [d_lo, hp, oI, nI_succ, if_pos h1]) (K (some (Sum.inl 1)))
      · skip
        refine G_steps 3 (S1 := (if nI k = e then 82 else 72, [some (Sum.inr (Sum.inl (20, 0))), some (Sum.inl (nI a)), some (Sum.inl e), some (Sum.inl (-1)), some (Sum.inl (nI k)), some (Sum.inl 1)], [], (v, u, c))) rfl rfl ?_
        refine G_if (fun h2 => ?_) (fun h2 => ?_)
        · skip
          refine G_steps 4 (S1 := (5, [some (Sum.inr (Sum.inl (20, 0))), some (Sum.inl (nI a)), some (Sum.inl e), some (Sum.inl (-1)), some (Sum.inl ((nI k) + 1)), some (Sum.inl 1)], [], (v, u, c))) rfl rfl ?_
          exact G_is (by simp only [d_lo, hp, oI, nI_succ, if_neg h1, if_pos h2]) (K (some (Sum.inl 1)))
        · skip
          refine G_steps 2 (S1 := (if 1 = 0 then 82 else 77, [some (Sum.inr (Sum.inl (20, 0))), some (Sum.inl (nI a)), some (Sum.inl e), some (Sum.inl (-1)), some (Sum.inl (nI k)), some (Sum.inl 1)], [], (v, u, c))) rfl rfl ?_
          refine G_iF (by decide) ?_
          refine G_steps 5 (S1 := (5, [some (Sum.inr (Sum.inl (20, 0))), some (Sum.inl (nI a)), some (Sum.inl e), some (Sum.inl (nI k)), some (Sum.inl ((nI k) + 1)), some (Sum.inl 1)], [], (v, u, c))) rfl rfl ?_
          exact G_is (by simp only [d_lo, hp, oI, nI_succ, if_neg h1, if_neg h2]) (K (some (Sum.inl 1)))
    | some t =>
      have ht := dlo_lt k t hp
      refine G_is (S' := (5, [some (Sum.inr (Sum.inl (20, 0))), some (Sum.inl (nI a)), some (Sum.inl e), some (Sum.inl (nI t)), some (Sum.inl (nI k)), o], [], (v, u, c))) rfl ?_
      refine G_steps 3 (S1 := (11, [some (Sum.inr (Sum.inl (20, 0))), some (Sum.inl (nI a)), some (Sum.inl e), some (Sum.inl (nI t)), some (Sum.inl (nI k)), o], [Sum.inl (u 20 0 0), Sum.inl (nI k)], (v, u, c))) rfl rfl ?_
      refine G_top hf ?_
      refine G_steps 1 (S1 := (if nI n ≤ nI k then 90 else 14, [some (Sum.inr (Sum.inl (20, 0))), some (Sum.inl (nI a)), some (Sum.inl e), some (Sum.inl (nI t)), some (Sum.inl (nI k)), o], [], (v, u, c))) rfl rfl ?_
      refine G_iF (fun z => absurd ((nI_le' (by omega) (by omega)).mp z) (by omega)) ?_
      refine G_steps 2 (S1 := (if nI t < 0 then 44 else 18, [some (Sum.inr (Sum.inl (20, 0))), some (Sum.inl (nI a)), some (Sum.inl e), some (Sum.inl (nI t)), some (Sum.inl (nI k)), o], [], (v, u, c))) rfl rfl ?_
      refine G_iF (nI_pos (by omega)) ?_
      refine G_steps 5 (S1 := (26, [some (Sum.inr (Sum.inl (20, 0))), some (Sum.inl (nI a)), some (Sum.inl e), some (Sum.inl (nI t)), some (Sum.inl (nI k)), o], [Sum.inl (6 * (nI a)), Sum.inr (Sum.inl (28, 0))], (v, u, c))) rfl rfl ?_
      refine G_top (nI_mul 6 a) ?_
      refine G_steps 2 (S1 := (29, [some (Sum.inr (Sum.inl (20, 0))), some (Sum.inl (nI a)), some (Sum.inl e), some (Sum.inl (nI t)), some (Sum.inl (nI k)), o], [Sum.inl ((nI (6 * a)) + (nI k)), Sum.inr (Sum.inl (28, 0))], (v, u, c))) rfl rfl ?_
      refine G_top (nI_ad (6 * a) k) ?_
      refine G_step (S1 := (30, [some (Sum.inr (Sum.inl (20, 0))), some (Sum.inl (nI a)), some (Sum.inl e), some (Sum.inl (nI t)), some (Sum.inl (nI k)), o], [Sum.inl (u 28 0 (ix (nI (6 * a + k))))], (v, u, c))) rfl (ib_nI (j := (6 * a + k)) (len := 36) (by omega) (by omega)) ?_
      rw [ix_nI (j := (6 * a + k)) (by omega)]
      refine G_steps 5 (S1 := (38, [some (Sum.inr (Sum.inl (20, 0))), some (Sum.inl (nI a)), some (Sum.inl e), some (Sum.inl (nI t)), some (Sum.inl (nI k)), o], [Sum.inl (6 * (nI a)), Sum.inr (Sum.inl (28, 0)), Sum.inl (u 28 0 (6 * a + k))], (v, u, c))) rfl rfl ?_
      refine G_top (nI_mul 6 a) ?_
      refine G_steps 2 (S1 := (40, [some (Sum.inr (Sum.inl (20, 0))), some (Sum.inl (nI a)), some (Sum.inl e), some (Sum.inl (nI t)), some (Sum.inl (nI k)), o], [Sum.inl ((nI (6 * a)) + (nI t)), Sum.inr (Sum.inl (28, 0)), Sum.inl (u 28 0 (6 * a + k))], (v, u, c))) rfl rfl ?_
      refine G_top (nI_ad (6 * a) t) ?_
      refine G_step (S1 := (41, [some (Sum.inr (Sum.inl (20, 0))), some (Sum.inl (nI a)), some (Sum.inl e), some (Sum.inl (nI t)), some (Sum.inl (nI k)), o], [Sum.inl (u 28 0 (ix (nI (6 * a + t)))), Sum.inl (u 28 0 (6 * a + k))], (v, u, c))) rfl (ib_nI (j := (6 * a + t)) (len := 36) (by omega) (by omega)) ?_
      rw [ix_nI (j := (6 * a + t)) (by omega)]
      refine G_steps 1 (S1 := (if u 28 0 (6 * a + t) ≤ u 28 0 (6 * a + k) then 48 else 44, [some (Sum.inr (Sum.inl (20, 0))), some (Sum.inl (nI a)), some (Sum.inl e), some (Sum.inl (nI t)), some (Sum.inl (nI k)), o], [], (v, u, c))) rfl rfl ?_
      refine G_if (fun h1 => ?_) (fun h1 => ?_)
      · skip
        refine G_steps 7 (S1 := (59, [some (Sum.inr (Sum.inl (20, 0))), some (Sum.inl (nI a)), some (Sum.inl e), some (Sum.inl (nI t)), some (Sum.inl (nI k)), some (Sum.inl 0)], [Sum.inl (6 * (nI a)), Sum.inr (Sum.inl (25, 0))], (v, u, c))) rfl rfl ?_
        refine G_top (nI_mul 6 a) ?_
        refine G_steps 2 (S1 := (62, [some (Sum.inr (Sum.inl (20, 0))), some (Sum.inl (nI a)), some (Sum.inl e), some (Sum.inl (nI t)), some (Sum.inl (nI k)), some (Sum.inl 0)], [Sum.inl ((nI (6 * a)) + (nI k)), Sum.inr (Sum.inl (25, 0))], (v, u, c))) rfl rfl ?_
        refine G_top (nI_ad (6 * a) k) ?_
        refine G_step (S1 := (63, [some (Sum.inr (Sum.inl (20, 0))), some (Sum.inl (nI a)), some (Sum.inl e), some (Sum.inl (nI t)), some (Sum.inl (nI k)), some (Sum.inl 0)], [Sum.inl (u 25 0 (ix (nI (6 * a + k))))], (v, u, c))) rfl (ib_nI (j := (6 * a + k)) (len := 36) (by omega) (by omega)) ?_
        rw [ix_nI (j := (6 * a + k)) (by omega)]
        refine G_steps 1 (S1 := (if u 25 0 (6 * a + k) = 0 then 82 else 66, [some (Sum.inr (Sum.inl (20, 0))), some (Sum.inl (nI a)), some (Sum.inl e), some (Sum.inl (nI t)), some (Sum.inl (nI k)), some (Sum.inl 0)], [], (v, u, c))) rfl rfl ?_
        refine G_if (fun h2 => ?_) (fun h2 => ?_)
        · skip
          refine G_steps 4 (S1 := (5, [some (Sum.inr (Sum.inl (20, 0))), some (Sum.inl (nI a)), some (Sum.inl e), some (Sum.inl (nI t)), some (Sum.inl ((nI k) + 1)), some (Sum.inl 0)], [], (v, u, c))) rfl rfl ?_
          exact G_is (by simp only [d_lo, hp, oI, nI_succ, if_pos h1, if_pos h2]) (K (some (Sum.inl 0)))
        · skip
          refine G_steps 3 (S1 := (if nI k = e then 82 else 72, [some (Sum.inr (Sum.inl (20, 0))), some (Sum.inl (nI a)), some (Sum.inl e), some (Sum.inl (nI t)), some (Sum.inl (nI k)), some (Sum.inl 0)], [], (v, u, c))) rfl rfl ?_
          refine G_if (fun h3 => ?_) (fun h3 => ?_)
          · skip
            refine G_steps 4 (S1 := (5, [some (Sum.inr (Sum.inl (20, 0))), some (Sum.inl (nI a)), some (Sum.inl e), some (Sum.inl (nI t)), some (Sum.inl ((nI k) + 1)), some (Sum.inl 0)], [], (v, u, c))) rfl rfl ?_
            exact G_is (by simp only [d_lo, hp, oI, nI_succ, if_pos h1, if_neg h2, if_pos h3]) (K (some (Sum.inl 0)))
          · skip
            refine G_steps 2 (S1 := (if 0 = 0 then 82 else 77, [some (Sum.inr (Sum.inl (20, 0))), some (Sum.inl (nI a)), some (Sum.inl e), some (Sum.inl (nI t)), some (Sum.inl (nI k)), some (Sum.inl 0)], [], (v, u, c))) rfl rfl ?_
            refine G_iT rfl ?_
            refine G_steps 4 (S1 := (5, [some (Sum.inr (Sum.inl (20, 0))), some (Sum.inl (nI a)), some (Sum.inl e), some (Sum.inl (nI t)), some (Sum.inl ((nI k) + 1)), some (Sum.inl 0)], [], (v, u, c))) rfl rfl ?_
            exact G_is (by simp only [d_lo, hp, oI, nI_succ, if_pos h1, if_neg h2, if_neg h3]) (K (some (Sum.inl 0)))
      · skip
        refine G_steps 8 (S1 := (59, [some (Sum.inr (Sum.inl (20, 0))), some (Sum.inl (nI a)), some (Sum.inl e), some (Sum.inl (nI t)), some (Sum.inl (nI k)), some (Sum.inl 1)], [Sum.inl (6 * (nI a)), Sum.inr (Sum.inl (25, 0))], (v, u, c))) rfl rfl ?_
        refine G_top (nI_mul 6 a) ?_
        refine G_steps 2 (S1 := (62, [some (Sum.inr (Sum.inl (20, 0))), some (Sum.inl (nI a)), some (Sum.inl e), some (Sum.inl (nI t)), some (Sum.inl (nI k)), some (Sum.inl 1)], [Sum.inl ((nI (6 * a)) + (nI k)), Sum.inr (Sum.inl (25, 0))], (v, u, c))) rfl rfl ?_
        refine G_top (nI_ad (6 * a) k) ?_
        refine G_step (S1 := (63, [some (Sum.inr (Sum.inl (20, 0))), some (Sum.inl (nI a)), some (Sum.inl e), some (Sum.inl (nI t)), some (Sum.inl (nI k)), some (Sum.inl 1)], [Sum.inl (u 25 0 (ix (nI (6 * a + k))))], (v, u, c))) rfl (ib_nI (j := (6 * a + k)) (len := 36) (by omega) (by omega)) ?_
        rw [ix_nI (j := (6 * a + k)) (by omega)]
        refine G_steps 1 (S1 := (if u 25 0 (6 * a + k) = 0 then 82 else 66, [some (Sum.inr (Sum.inl (20, 0))), some (Sum.inl (nI a)), some (Sum.inl e), some (Sum.inl (nI t)), some (Sum.inl (nI k)), some (Sum.inl 1)], [], (v, u, c))) rfl rfl ?_
        refine G_if (fun h4 => ?_) (fun h4 => ?_)
        · skip
          refine G_steps 4 (S1 := (5, [some (Sum.inr (Sum.inl (20, 0))), some (Sum.inl (nI a)), some (Sum.inl e), some (Sum.inl (nI t)), some (Sum.inl ((nI k) + 1)), some (Sum.inl 1)], [], (v, u, c))) rfl rfl ?_
          exact G_is (by simp only [d_lo, hp, oI, nI_succ, if_neg h1, if_pos h4]) (K (some (Sum.inl 1)))
        · skip
          refine G_steps 3 (S1 := (if nI k = e then 82 else 72, [some (Sum.inr (Sum.inl (20, 0))), some (Sum.inl (nI a)), some (Sum.inl e), some (Sum.inl (nI t)), some (Sum.inl (nI k)), some (Sum.inl 1)], [], (v, u, c))) rfl rfl ?_
          refine G_if (fun h5 => ?_) (fun h5 => ?_)
          · skip
            refine G_steps 4 (S1 := (5, [some (Sum.inr (Sum.inl (20, 0))), some (Sum.inl (nI a)), some (Sum.inl e), some (Sum.inl (nI t)), some (Sum.inl ((nI k) + 1)), some (Sum.inl 1)], [], (v, u, c))) rfl rfl ?_
            exact G_is (by simp only [d_lo, hp, oI, nI_succ, if_neg h1, if_neg h4, if_pos h5]) (K (some (Sum.inl 1)))
          · skip
            refine G_steps 2 (S1 := (if 1 = 0 then 82 else 77, [some (Sum.inr (Sum.inl (20, 0))), some (Sum.inl (nI a)), some (Sum.inl e), some (Sum.inl (nI t)), some (Sum.inl (nI k)), some (Sum.inl 1)], [], (v, u, c))) rfl rfl ?_
            refine G_iF (by decide) ?_
            refine G_steps 5 (S1 := (5, [some (Sum.inr (Sum.inl (20, 0))), some (Sum.inl (nI a)), some (Sum.inl e), some (Sum.inl (nI k)), some (Sum.inl ((nI k) + 1)), some (Sum.inl 1)], [], (v, u, c))) rfl rfl ?_
            exact G_is (by simp only [d_lo, hp, oI, nI_succ, if_neg h1, if_neg h4, if_neg h5]) (K (some (Sum.inl 1)))
  · skip
    refine G_steps 3 (S1 := (11, [some (Sum.inr (Sum.inl (20, 0))), some (Sum.inl (nI a)), some (Sum.inl e), some (Sum.inl (oI (d_lo u a e n))), some (Sum.inl (nI n)), o], [Sum.inl (u 20 0 0), Sum.inl (nI n)], (v, u, c))) rfl rfl ?_
    refine G_top hf ?_
    refine G_steps 1 (S1 := (if nI n ≤ nI n then 90 else 14, [some (Sum.inr (Sum.inl (20, 0))), some (Sum.inl (nI a)), some (Sum.inl e), some (Sum.inl (oI (d_lo u a e n))), some (Sum.inl (nI n)), o], [], (v, u, c))) rfl rfl ?_
    refine G_iT ((nI_le' (by omega) (by omega)).mpr (Nat.le_refl _)) ?_
    refine G_steps 1 (S1 := (91, [some (Sum.inr (Sum.inl (20, 0))), some (Sum.inl (nI a)), some (Sum.inl e), some (Sum.inl (oI (d_lo u a e n))), some (Sum.inl (nI n)), o], [Sum.inl (oI (d_lo u a e n))], (v, u, c))) rfl rfl ?_
    exact G_fin rfl rfl rfl
set_option maxRecDepth 100000 in
theorem e_m_carry (d : Nat) {n L : Nat} {xs : Nat → Int32} {v u : mV} {c : Nat} {a m r cnt : Nat} (hn : n ≤ 6) (ha : a < n) (hm : m < n) (hr : u 20 0 13 = nI r) (hr2 : r < 25) (hcn : u 39 0 r = nI cnt) (hct : cnt ≤ 1) : E_v false n L xs (d + 1) 59 [Sum.inr (Sum.inl (20, 0)), Sum.inl (nI a), Sum.inl (nI m)] (v, u, c) none (v, d_car u a m r cnt, c) := by
  refine E_mk mc_59 (by decide) ?_
  refine G_steps 3 (S1 := (5, [some (Sum.inr (Sum.inl (20, 0))), some (Sum.inl (nI a)), some (Sum.inl (nI m)), none], [Sum.inl (u 20 0 13), Sum.inl 2], (v, u, c))) rfl rfl ?_
  refine G_top hr ?_
  refine G_steps 1 (S1 := (6, [some (Sum.inr (Sum.inl (20, 0))), some (Sum.inl (nI a)), some (Sum.inl (nI m)), none], [Sum.inl (2 * (nI r))], (v, u, c))) rfl rfl ?_
  refine G_top (nI_mul 2 r) ?_
  refine G_steps 4 (S1 := (14, [some (Sum.inr (Sum.inl (20, 0))), some (Sum.inl (nI a)), some (Sum.inl (nI m)), none], [Sum.inl (u 20 0 13), Sum.inr (Sum.inl (39, 0)), Sum.inl (nI (2 * r))], (v, u, c))) rfl rfl ?_
  refine G_top hr ?_
  refine G_step (S1 := (15, [some (Sum.inr (Sum.inl (20, 0))), some (Sum.inl (nI a)), some (Sum.inl (nI m)), none], [Sum.inl (u 39 0 (ix (nI r))), Sum.inl (nI (2 * r))], (v, u, c))) rfl (ib_nI (j := r) (len := 25) (by omega) (by omega)) ?_
  rw [ix_nI (j := r) (by omega)]
  refine G_top hcn ?_
  refine G_steps 1 (S1 := (16, [some (Sum.inr (Sum.inl (20, 0))), some (Sum.inl (nI a)), some (Sum.inl (nI m)), none], [Sum.inl ((nI (2 * r)) + (nI cnt))], (v, u, c))) rfl rfl ?_
  refine G_top (nI_ad (2 * r) cnt) ?_
  refine G_steps 5 (S1 := (23, [some (Sum.inr (Sum.inl (20, 0))), some (Sum.inl (nI a)), some (Sum.inl (nI m)), some (Sum.inl (nI (2 * r + cnt)))], [Sum.inl (nI m), Sum.inl (nI (2 * r + cnt)), Sum.inr (Sum.inl (40, 0))], (v, u, c))) rfl rfl ?_
  refine G_step (S1 := (24, [some (Sum.inr (Sum.inl (20, 0))), some (Sum.inl (nI a)), some (Sum.inl (nI m)), some (Sum.inl (nI (2 * r + cnt)))], [], (v, m_u3 u 40 0 (ix (nI (2 * r + cnt))) (nI m), c))) rfl (ib_nI (j := (2 * r + cnt)) (len := 50) (by omega) (by omega)) ?_
  rw [ix_nI (j := (2 * r + cnt)) (by omega)]
  refine G_steps 8 (S1 := (37, [some (Sum.inr (Sum.inl (20, 0))), some (Sum.inl (nI a)), some (Sum.inl (nI m)), some (Sum.inl (nI (2 * r + cnt)))], [Sum.inl (6 * (nI a)), Sum.inr (Sum.inl (26, 0)), Sum.inl (nI (2 * r + cnt)), Sum.inr (Sum.inl (41, 0))], (v, m_u3 u 40 0 (2 * r + cnt) (nI m), c))) rfl rfl ?_
  refine G_top (nI_mul 6 a) ?_
  refine G_steps 2 (S1 := (39, [some (Sum.inr (Sum.inl (20, 0))), some (Sum.inl (nI a)), some (Sum.inl (nI m)), some (Sum.inl (nI (2 * r + cnt)))], [Sum.inl ((nI (6 * a)) + (nI m)), Sum.inr (Sum.inl (26, 0)), Sum.inl (nI (2 * r + cnt)), Sum.inr (Sum.inl (41, 0))], (v, m_u3 u 40 0 (2 * r + cnt) (nI m), c))) rfl rfl ?_
  refine G_top (nI_ad (6 * a) m) ?_
  refine G_step (S1 := (40, [some (Sum.inr (Sum.inl (20, 0))), some (Sum.inl (nI a)), some (Sum.inl (nI m)), some (Sum.inl (nI (2 * r + cnt)))], [Sum.inl (u 26 0 (ix (nI (6 * a + m)))), Sum.inl (nI (2 * r + cnt)), Sum.inr (Sum.inl (41, 0))], (v, m_u3 u 40 0 (2 * r + cnt) (nI m), c))) rfl (ib_nI (j := (6 * a + m)) (len := 36) (by omega) (by omega)) ?_
  rw [ix_nI (j := (6 * a + m)) (by omega)]
  refine G_step (S1 := (41, [some (Sum.inr (Sum.inl (20, 0))), some (Sum.inl (nI a)), some (Sum.inl (nI m)), some (Sum.inl (nI (2 * r + cnt)))], [], (v, m_u3 (m_u3 u 40 0 (2 * r + cnt) (nI m)) 41 0 (ix (nI (2 * r + cnt))) (u 26 0 (6 * a + m)), c))) rfl (ib_nI (j := (2 * r + cnt)) (len := 50) (by omega) (by omega)) ?_
  rw [ix_nI (j := (2 * r + cnt)) (by omega)]
  refine G_steps 8 (S1 := (54, [some (Sum.inr (Sum.inl (20, 0))), some (Sum.inl (nI a)), some (Sum.inl (nI m)), some (Sum.inl (nI (2 * r + cnt)))], [Sum.inl (6 * (nI a)), Sum.inr (Sum.inl (27, 0)), Sum.inl (nI (2 * r + cnt)), Sum.inr (Sum.inl (42, 0))], (v, m_u3 (m_u3 u 40 0 (2 * r + cnt) (nI m)) 41 0 (2 * r + cnt) (u 26 0 (6 * a + m)), c))) rfl rfl ?_
  refine G_top (nI_mul 6 a) ?_
  refine G_steps 2 (S1 := (56, [some (Sum.inr (Sum.inl (20, 0))), some (Sum.inl (nI a)), some (Sum.inl (nI m)), some (Sum.inl (nI (2 * r + cnt)))], [Sum.inl ((nI (6 * a)) + (nI m)), Sum.inr (Sum.inl (27, 0)), Sum.inl (nI (2 * r + cnt)), Sum.inr (Sum.inl (42, 0))], (v, m_u3 (m_u3 u 40 0 (2 * r + cnt) (nI m)) 41 0 (2 * r + cnt) (u 26 0 (6 * a + m)), c))) rfl rfl ?_
  refine G_top (nI_ad (6 * a) m) ?_
  refine G_step (S1 := (57, [some (Sum.inr (Sum.inl (20, 0))), some (Sum.inl (nI a)), some (Sum.inl (nI m)), some (Sum.inl (nI (2 * r + cnt)))], [Sum.inl (u 27 0 (ix (nI (6 * a + m)))), Sum.inl (nI (2 * r + cnt)), Sum.inr (Sum.inl (42, 0))], (v, m_u3 (m_u3 u 40 0 (2 * r + cnt) (nI m)) 41 0 (2 * r + cnt) (u 26 0 (6 * a + m)), c))) rfl (ib_nI (j := (6 * a + m)) (len := 36) (by omega) (by omega)) ?_
  rw [ix_nI (j := (6 * a + m)) (by omega)]
  refine G_step (S1 := (58, [some (Sum.inr (Sum.inl (20, 0))), some (Sum.inl (nI a)), some (Sum.inl (nI m)), some (Sum.inl (nI (2 * r + cnt)))], [], (v, m_u3 (m_u3 (m_u3 u 40 0 (2 * r + cnt) (nI m)) 41 0 (2 * r + cnt) (u 26 0 (6 * a + m))) 42 0 (ix (nI (2 * r + cnt))) (u 27 0 (6 * a + m)), c))) rfl (ib_nI (j := (2 * r + cnt)) (len := 50) (by omega) (by omega)) ?_
  rw [ix_nI (j := (2 * r + cnt)) (by omega)]
  refine G_steps 4 (S1 := (66, [some (Sum.inr (Sum.inl (20, 0))), some (Sum.inl (nI a)), some (Sum.inl (nI m)), some (Sum.inl (nI (2 * r + cnt)))], [Sum.inl (u 20 0 13), Sum.inr (Sum.inl (39, 0))], (v, m_u3 (m_u3 (m_u3 u 40 0 (2 * r + cnt) (nI m)) 41 0 (2 * r + cnt) (u 26 0 (6 * a + m))) 42 0 (2 * r + cnt) (u 27 0 (6 * a + m)), c))) rfl rfl ?_
  refine G_top hr ?_
  refine G_steps 1 (S1 := (67, [some (Sum.inr (Sum.inl (20, 0))), some (Sum.inl (nI a)), some (Sum.inl (nI m)), some (Sum.inl (nI (2 * r + cnt)))], [Sum.inl (nI r), Sum.inr (Sum.inl (39, 0)), Sum.inl (nI r), Sum.inr (Sum.inl (39, 0))], (v, m_u3 (m_u3 (m_u3 u 40 0 (2 * r + cnt) (nI m)) 41 0 (2 * r + cnt) (u 26 0 (6 * a + m))) 42 0 (2 * r + cnt) (u 27 0 (6 * a + m)), c))) rfl rfl ?_
  refine G_step (S1 := (68, [some (Sum.inr (Sum.inl (20, 0))), some (Sum.inl (nI a)), some (Sum.inl (nI m)), some (Sum.inl (nI (2 * r + cnt)))], [Sum.inl (u 39 0 (ix (nI r))), Sum.inl (nI r), Sum.inr (Sum.inl (39, 0))], (v, m_u3 (m_u3 (m_u3 u 40 0 (2 * r + cnt) (nI m)) 41 0 (2 * r + cnt) (u 26 0 (6 * a + m))) 42 0 (2 * r + cnt) (u 27 0 (6 * a + m)), c))) rfl (ib_nI (j := r) (len := 25) (by omega) (by omega)) ?_
  rw [ix_nI (j := r) (by omega)]
  refine G_top hcn ?_
  refine G_steps 2 (S1 := (70, [some (Sum.inr (Sum.inl (20, 0))), some (Sum.inl (nI a)), some (Sum.inl (nI m)), some (Sum.inl (nI (2 * r + cnt)))], [Sum.inl ((nI cnt) + 1), Sum.inl (nI r), Sum.inr (Sum.inl (39, 0))], (v, m_u3 (m_u3 (m_u3 u 40 0 (2 * r + cnt) (nI m)) 41 0 (2 * r + cnt) (u 26 0 (6 * a + m))) 42 0 (2 * r + cnt) (u 27 0 (6 * a + m)), c))) rfl rfl ?_
  refine G_top ((nI_succ cnt).symm) ?_
  refine G_step (S1 := (71, [some (Sum.inr (Sum.inl (20, 0))), some (Sum.inl (nI a)), some (Sum.inl (nI m)), some (Sum.inl (nI (2 * r + cnt)))], [], (v, m_u3 (m_u3 (m_u3 (m_u3 u 40 0 (2 * r + cnt) (nI m)) 41 0 (2 * r + cnt) (u 26 0 (6 * a + m))) 42 0 (2 * r + cnt) (u 27 0 (6 * a + m))) 39 0 (ix (nI r)) (nI (cnt + 1)), c))) rfl (ib_nI (j := r) (len := 25) (by omega) (by omega)) ?_
  rw [ix_nI (j := r) (by omega)]
  exact G_fin rfl rfl (M_2 rfl)
set_option maxRecDepth 100000 in
theorem e_m_spend0 (d : Nat) {n L : Nat} {xs : Nat → Int32} {v u : mV} {c : Nat} {a : Nat} : E_v false n L xs (d + 1) 60 [Sum.inr (Sum.inl (20, 0)), Sum.inl (nI a), Sum.inl (oI none)] (v, u, c) none (v, d_sp u a none, c) := by
  refine E_mk mc_60 (by decide) ?_
  refine G_steps 2 (S1 := (if oI none < 0 then 51 else 4, [some (Sum.inr (Sum.inl (20, 0))), some (Sum.inl (nI a)), some (Sum.inl (oI none))], [], (v, u, c))) rfl rfl ?_
  refine G_iT (by decide) ?_
  exact G_fin rfl rfl rfl
set_option maxRecDepth 100000 in
theorem e_m_spend1 (d : Nat) {n L : Nat} {xs : Nat → Int32} {v u : mV} {c : Nat} {a t : Nat} (hn : n ≤ 6) (ha : a < n) (ht : t < n) : E_v false n L xs (d + 1) 60 [Sum.inr (Sum.inl (20, 0)), Sum.inl (nI a), Sum.inl (nI t)] (v, u, c) none (v, d_sp u a (some t), c) := by
  refine E_mk mc_60 (by decide) ?_
  refine G_steps 2 (S1 := (if nI t < 0 then 51 else 4, [some (Sum.inr (Sum.inl (20, 0))), some (Sum.inl (nI a)), some (Sum.inl (nI t))], [], (v, u, c))) rfl rfl ?_
  refine G_iF (nI_pos (by omega)) ?_
  refine G_steps 5 (S1 := (12, [some (Sum.inr (Sum.inl (20, 0))), some (Sum.inl (nI a)), some (Sum.inl (nI t))], [Sum.inl (6 * (nI a)), Sum.inr (Sum.inl (28, 0))], (v, u, c))) rfl rfl ?_
  refine G_top (nI_mul 6 a) ?_
  refine G_steps 2 (S1 := (14, [some (Sum.inr (Sum.inl (20, 0))), some (Sum.inl (nI a)), some (Sum.inl (nI t))], [Sum.inl ((nI (6 * a)) + (nI t)), Sum.inr (Sum.inl (28, 0))], (v, u, c))) rfl rfl ?_
  refine G_top (nI_ad (6 * a) t) ?_
  refine G_steps 1 (S1 := (15, [some (Sum.inr (Sum.inl (20, 0))), some (Sum.inl (nI a)), some (Sum.inl (nI t))], [Sum.inl (nI (6 * a + t)), Sum.inr (Sum.inl (28, 0)), Sum.inl (nI (6 * a + t)), Sum.inr (Sum.inl (28, 0))], (v, u, c))) rfl rfl ?_
  refine G_step (S1 := (16, [some (Sum.inr (Sum.inl (20, 0))), some (Sum.inl (nI a)), some (Sum.inl (nI t))], [Sum.inl (u 28 0 (ix (nI (6 * a + t)))), Sum.inl (nI (6 * a + t)), Sum.inr (Sum.inl (28, 0))], (v, u, c))) rfl (ib_nI (j := (6 * a + t)) (len := 36) (by omega) (by omega)) ?_
  rw [ix_nI (j := (6 * a + t)) (by omega)]
  refine G_steps 2 (S1 := (18, [some (Sum.inr (Sum.inl (20, 0))), some (Sum.inl (nI a)), some (Sum.inl (nI t))], [Sum.inl ((u 28 0 (6 * a + t)) + 1), Sum.inl (nI (6 * a + t)), Sum.inr (Sum.inl (28, 0))], (v, u, c))) rfl rfl ?_
  refine G_step (S1 := (19, [some (Sum.inr (Sum.inl (20, 0))), some (Sum.inl (nI a)), some (Sum.inl (nI t))], [], (v, m_u3 u 28 0 (ix (nI (6 * a + t))) ((u 28 0 (6 * a + t)) + 1), c))) rfl (ib_nI (j := (6 * a + t)) (len := 36) (by omega) (by omega)) ?_
  rw [ix_nI (j := (6 * a + t)) (by omega)]
  refine G_steps 5 (S1 := (27, [some (Sum.inr (Sum.inl (20, 0))), some (Sum.inl (nI a)), some (Sum.inl (nI t))], [Sum.inl (6 * (nI a)), Sum.inr (Sum.inl (25, 0))], (v, m_u3 u 28 0 (6 * a + t) ((u 28 0 (6 * a + t)) + 1), c))) rfl rfl ?_
  refine G_top (nI_mul 6 a) ?_
  refine G_steps 2 (S1 := (29, [some (Sum.inr (Sum.inl (20, 0))), some (Sum.inl (nI a)), some (Sum.inl (nI t))], [Sum.inl ((nI (6 * a)) + (nI t)), Sum.inr (Sum.inl (25, 0))], (v, m_u3 u 28 0 (6 * a + t) ((u 28 0 (6 * a + t)) + 1), c))) rfl rfl ?_
  refine G_top (nI_ad (6 * a) t) ?_
  refine G_steps 5 (S1 := (37, [some (Sum.inr (Sum.inl (20, 0))), some (Sum.inl (nI a)), some (Sum.inl (nI t))], [Sum.inl (6 * (nI a)), Sum.inr (Sum.inl (28, 0)), Sum.inl (nI (6 * a + t)), Sum.inr (Sum.inl (25, 0))], (v, m_u3 u 28 0 (6 * a + t) ((u 28 0 (6 * a + t)) + 1), c))) rfl rfl ?_
  refine G_top (nI_mul 6 a) ?_
  refine G_steps 2 (S1 := (39, [some (Sum.inr (Sum.inl (20, 0))), some (Sum.inl (nI a)), some (Sum.inl (nI t))], [Sum.inl ((nI (6 * a)) + (nI t)), Sum.inr (Sum.inl (28, 0)), Sum.inl (nI (6 * a + t)), Sum.inr (Sum.inl (25, 0))], (v, m_u3 u 28 0 (6 * a + t) ((u 28 0 (6 * a + t)) + 1), c))) rfl rfl ?_
  refine G_top (nI_ad (6 * a) t) ?_
  refine G_step (S1 := (40, [some (Sum.inr (Sum.inl (20, 0))), some (Sum.inl (nI a)), some (Sum.inl (nI t))], [Sum.inl ((m_u3 u 28 0 (6 * a + t) ((u 28 0 (6 * a + t)) + 1)) 28 0 (ix (nI (6 * a + t)))), Sum.inl (nI (6 * a + t)), Sum.inr (Sum.inl (25, 0))], (v, m_u3 u 28 0 (6 * a + t) ((u 28 0 (6 * a + t)) + 1), c))) rfl (ib_nI (j := (6 * a + t)) (len := 36) (by omega) (by omega)) ?_
  rw [ix_nI (j := (6 * a + t)) (by omega)]
  refine G_top u3_s ?_
  refine G_steps 2 (S1 := (if 6 ≤ (u 28 0 (6 * a + t)) + 1 then 49 else 45, [some (Sum.inr (Sum.inl (20, 0))), some (Sum.inl (nI a)), some (Sum.inl (nI t))], [Sum.inl (nI (6 * a + t)), Sum.inr (Sum.inl (25, 0))], (v, m_u3 u 28 0 (6 * a + t) ((u 28 0 (6 * a + t)) + 1), c))) rfl rfl ?_
  refine G_if (fun h1 => ?_) (fun h1 => ?_)
  · skip
    refine G_steps 1 (S1 := (50, [some (Sum.inr (Sum.inl (20, 0))), some (Sum.inl (nI a)), some (Sum.inl (nI t))], [Sum.inl 0, Sum.inl (nI (6 * a + t)), Sum.inr (Sum.inl (25, 0))], (v, m_u3 u 28 0 (6 * a + t) ((u 28 0 (6 * a + t)) + 1), c))) rfl rfl ?_
    refine G_step (S1 := (51, [some (Sum.inr (Sum.inl (20, 0))), some (Sum.inl (nI a)), some (Sum.inl (nI t))], [], (v, m_u3 (m_u3 u 28 0 (6 * a + t) ((u 28 0 (6 * a + t)) + 1)) 25 0 (ix (nI (6 * a + t))) 0, c))) rfl (ib_b (ib_nI (j := (6 * a + t)) (len := 36) (by omega) (by omega)) rfl) ?_
    rw [ix_nI (j := (6 * a + t)) (by omega)]
    exact G_fin rfl rfl (M_2 (by simp only [d_sp, if_pos h1]))
  · skip
    refine G_steps 2 (S1 := (50, [some (Sum.inr (Sum.inl (20, 0))), some (Sum.inl (nI a)), some (Sum.inl (nI t))], [Sum.inl 1, Sum.inl (nI (6 * a + t)), Sum.inr (Sum.inl (25, 0))], (v, m_u3 u 28 0 (6 * a + t) ((u 28 0 (6 * a + t)) + 1), c))) rfl rfl ?_
    refine G_step (S1 := (51, [some (Sum.inr (Sum.inl (20, 0))), some (Sum.inl (nI a)), some (Sum.inl (nI t))], [], (v, m_u3 (m_u3 u 28 0 (6 * a + t) ((u 28 0 (6 * a + t)) + 1)) 25 0 (ix (nI (6 * a + t))) 1, c))) rfl (ib_b (ib_nI (j := (6 * a + t)) (len := 36) (by omega) (by omega)) rfl) ?_
    rw [ix_nI (j := (6 * a + t)) (by omega)]
    exact G_fin rfl rfl (M_2 (by simp only [d_sp, if_neg h1]))
set_option maxRecDepth 100000 in
theorem e_m_send0 (d : Nat) {n L : Nat} {xs : Nat → Int32} {v u : mV} {c : Nat} {a r : Nat} {kd to og tg pn : Int32} (hn : n ≤ 6) (hf : F_m n u) (ha : a < n) (hr : u 20 0 13 = nI r) (hr2 : r ≤ 24) (hp : d_lo u a (-1) n = none) : E_v false n L xs (d + 2) 57 [Sum.inr (Sum.inl (20, 0)), Sum.inl kd, Sum.inl (nI a), Sum.inl to, Sum.inl og, Sum.inl tg, Sum.inl pn] (v, u, c) none (v, d_send n u a kd to og tg pn r, c) := by
  refine E_mk mc_57 (by decide) ?_
  refine G_steps 3 (S1 := (3, [some (Sum.inr (Sum.inl (20, 0))), some (Sum.inl kd), some (Sum.inl (nI a)), some (Sum.inl to), some (Sum.inl og), some (Sum.inl tg), some (Sum.inl pn), none, none], [Sum.inl (-1), Sum.inl (nI a), Sum.inr (Sum.inl (20, 0))], (v, u, c))) rfl rfl ?_
  refine G_call (y := some (Sum.inl (oI (d_lo u a (-1) n)))) (M1 := (v, u, c)) rfl rfl (e_m_pick _ hn hf ha) ?_
  refine G_is (S' := (6, [some (Sum.inr (Sum.inl (20, 0))), some (Sum.inl kd), some (Sum.inl (nI a)), some (Sum.inl to), some (Sum.inl og), some (Sum.inl tg), some (Sum.inl pn), none, none], [Sum.inl (oI (d_lo u a (-1) n))], (v, u, c))) rfl ?_
  refine G_top (congrArg oI hp) ?_
  refine G_steps 3 (S1 := (if 0 ≤ (-1) then 17 else 13, [some (Sum.inr (Sum.inl (20, 0))), some (Sum.inl kd), some (Sum.inl (nI a)), some (Sum.inl to), some (Sum.inl og), some (Sum.inl tg), some (Sum.inl pn), some (Sum.inl (-1)), none], [], (v, u, c))) rfl rfl ?_
  refine G_iF (by decide) ?_
  refine G_steps 5 (S1 := (30, [some (Sum.inr (Sum.inl (20, 0))), some (Sum.inl kd), some (Sum.inl (nI a)), some (Sum.inl to), some (Sum.inl og), some (Sum.inl tg), some (Sum.inl pn), some (Sum.inl (-1)), some (Sum.inl (-1))], [Sum.inl (u 20 0 13)], (v, u, c))) rfl rfl ?_
  refine G_top hr ?_
  refine G_steps 2 (S1 := (if 24 ≤ nI r then 142 else 35, [some (Sum.inr (Sum.inl (20, 0))), some (Sum.inl kd), some (Sum.inl (nI a)), some (Sum.inl to), some (Sum.inl og), some (Sum.inl tg), some (Sum.inl pn), some (Sum.inl (-1)), some (Sum.inl (-1))], [], (v, u, c))) rfl rfl ?_
  refine G_if (fun h1 => ?_) (fun h1 => ?_)
  · skip
    refine G_steps 3 (S1 := (146, [some (Sum.inr (Sum.inl (20, 0))), some (Sum.inl kd), some (Sum.inl (nI a)), some (Sum.inl to), some (Sum.inl og), some (Sum.inl tg), some (Sum.inl pn), some (Sum.inl (-1)), some (Sum.inl (-1))], [Sum.inl (-1), Sum.inl (nI a), Sum.inr (Sum.inl (20, 0))], (v, u, c))) rfl rfl ?_
    refine G_call (y := none) (M1 := (v, u, c)) rfl rfl (e_m_spend0 _) ?_
    refine G_is (S' := (149, [some (Sum.inr (Sum.inl (20, 0))), some (Sum.inl kd), some (Sum.inl (nI a)), some (Sum.inl to), some (Sum.inl og), some (Sum.inl tg), some (Sum.inl pn), some (Sum.inl (-1)), some (Sum.inl (-1))], [], (v, u, c))) rfl ?_
    refine G_steps 3 (S1 := (153, [some (Sum.inr (Sum.inl (20, 0))), some (Sum.inl kd), some (Sum.inl (nI a)), some (Sum.inl to), some (Sum.inl og), some (Sum.inl tg), some (Sum.inl pn), some (Sum.inl (-1)), some (Sum.inl (-1))], [Sum.inl (-1), Sum.inl (nI a), Sum.inr (Sum.inl (20, 0))], (v, u, c))) rfl rfl ?_
    refine G_call (y := none) (M1 := (v, u, c)) rfl rfl (e_m_spend0 _) ?_
    refine G_is (S' := (156, [some (Sum.inr (Sum.inl (20, 0))), some (Sum.inl kd), some (Sum.inl (nI a)), some (Sum.inl to), some (Sum.inl og), some (Sum.inl tg), some (Sum.inl pn), some (Sum.inl (-1)), some (Sum.inl (-1))], [], (v, u, c))) rfl ?_
    exact G_fin rfl rfl (M_2 (by simp only [d_send, d_two, d_c2, d_f7, hp, d_sp, if_pos h1]; try rfl))
  · skip
    refine G_steps 4 (S1 := (43, [some (Sum.inr (Sum.inl (20, 0))), some (Sum.inl kd), some (Sum.inl (nI a)), some (Sum.inl to), some (Sum.inl og), some (Sum.inl tg), some (Sum.inl pn), some (Sum.inl (-1)), some (Sum.inl (-1))], [Sum.inl (u 20 0 13), Sum.inr (Sum.inl (33, 0))], (v, u, c))) rfl rfl ?_
    refine G_top hr ?_
    refine G_steps 1 (S1 := (44, [some (Sum.inr (Sum.inl (20, 0))), some (Sum.inl kd), some (Sum.inl (nI a)), some (Sum.inl to), some (Sum.inl og), some (Sum.inl tg), some (Sum.inl pn), some (Sum.inl (-1)), some (Sum.inl (-1))], [Sum.inl kd, Sum.inl (nI r), Sum.inr (Sum.inl (33, 0))], (v, u, c))) rfl rfl ?_
    refine G_step (S1 := (45, [some (Sum.inr (Sum.inl (20, 0))), some (Sum.inl kd), some (Sum.inl (nI a)), some (Sum.inl to), some (Sum.inl og), some (Sum.inl tg), some (Sum.inl pn), some (Sum.inl (-1)), some (Sum.inl (-1))], [], (v, m_u3 u 33 0 (ix (nI r)) kd, c))) rfl (ib_nI (j := r) (len := 25) (by omega) (by omega)) ?_
    rw [ix_nI (j := r) (by omega)]
    refine G_steps 4 (S1 := (53, [some (Sum.inr (Sum.inl (20, 0))), some (Sum.inl kd), some (Sum.inl (nI a)), some (Sum.inl to), some (Sum.inl og), some (Sum.inl tg), some (Sum.inl pn), some (Sum.inl (-1)), some (Sum.inl (-1))], [Sum.inl (u 20 0 13), Sum.inr (Sum.inl (34, 0))], (v, m_u3 u 33 0 r kd, c))) rfl rfl ?_
    refine G_top hr ?_
    refine G_steps 1 (S1 := (54, [some (Sum.inr (Sum.inl (20, 0))), some (Sum.inl kd), some (Sum.inl (nI a)), some (Sum.inl to), some (Sum.inl og), some (Sum.inl tg), some (Sum.inl pn), some (Sum.inl (-1)), some (Sum.inl (-1))], [Sum.inl (nI a), Sum.inl (nI r), Sum.inr (Sum.inl (34, 0))], (v, m_u3 u 33 0 r kd, c))) rfl rfl ?_
    refine G_step (S1 := (55, [some (Sum.inr (Sum.inl (20, 0))), some (Sum.inl kd), some (Sum.inl (nI a)), some (Sum.inl to), some (Sum.inl og), some (Sum.inl tg), some (Sum.inl pn), some (Sum.inl (-1)), some (Sum.inl (-1))], [], (v, m_u3 (m_u3 u 33 0 r kd) 34 0 (ix (nI r)) (nI a), c))) rfl (ib_nI (j := r) (len := 25) (by omega) (by omega)) ?_
    rw [ix_nI (j := r) (by omega)]
    refine G_steps 4 (S1 := (63, [some (Sum.inr (Sum.inl (20, 0))), some (Sum.inl kd), some (Sum.inl (nI a)), some (Sum.inl to), some (Sum.inl og), some (Sum.inl tg), some (Sum.inl pn), some (Sum.inl (-1)), some (Sum.inl (-1))], [Sum.inl (u 20 0 13), Sum.inr (Sum.inl (35, 0))], (v, m_u3 (m_u3 u 33 0 r kd) 34 0 r (nI a), c))) rfl rfl ?_
    refine G_top hr ?_
    refine G_steps 1 (S1 := (64, [some (Sum.inr (Sum.inl (20, 0))), some (Sum.inl kd), some (Sum.inl (nI a)), some (Sum.inl to), some (Sum.inl og), some (Sum.inl tg), some (Sum.inl pn), some (Sum.inl (-1)), some (Sum.inl (-1))], [Sum.inl to, Sum.inl (nI r), Sum.inr (Sum.inl (35, 0))], (v, m_u3 (m_u3 u 33 0 r kd) 34 0 r (nI a), c))) rfl rfl ?_
    refine G_step (S1 := (65, [some (Sum.inr (Sum.inl (20, 0))), some (Sum.inl kd), some (Sum.inl (nI a)), some (Sum.inl to), some (Sum.inl og), some (Sum.inl tg), some (Sum.inl pn), some (Sum.inl (-1)), some (Sum.inl (-1))], [], (v, m_u3 (m_u3 (m_u3 u 33 0 r kd) 34 0 r (nI a)) 35 0 (ix (nI r)) to, c))) rfl (ib_nI (j := r) (len := 25) (by omega) (by omega)) ?_
    rw [ix_nI (j := r) (by omega)]
    refine G_steps 4 (S1 := (73, [some (Sum.inr (Sum.inl (20, 0))), some (Sum.inl kd), some (Sum.inl (nI a)), some (Sum.inl to), some (Sum.inl og), some (Sum.inl tg), some (Sum.inl pn), some (Sum.inl (-1)), some (Sum.inl (-1))], [Sum.inl (u 20 0 13), Sum.inr (Sum.inl (36, 0))], (v, m_u3 (m_u3 (m_u3 u 33 0 r kd) 34 0 r (nI a)) 35 0 r to, c))) rfl rfl ?_
    refine G_top hr ?_
    refine G_steps 1 (S1 := (75, [some (Sum.inr (Sum.inl (20, 0))), some (Sum.inl kd), some (Sum.inl (nI a)), some (Sum.inl to), some (Sum.inl og), some (Sum.inl tg), some (Sum.inl pn), some (Sum.inl (-1)), some (Sum.inl (-1))], [Sum.inl og, Sum.inl (nI r), Sum.inr (Sum.inl (36, 0))], (v, m_u3 (m_u3 (m_u3 u 33 0 r kd) 34 0 r (nI a)) 35 0 r to, c))) rfl rfl ?_
    refine G_step (S1 := (76, [some (Sum.inr (Sum.inl (20, 0))), some (Sum.inl kd), some (Sum.inl (nI a)), some (Sum.inl to), some (Sum.inl og), some (Sum.inl tg), some (Sum.inl pn), some (Sum.inl (-1)), some (Sum.inl (-1))], [], (v, m_u3 (m_u3 (m_u3 (m_u3 u 33 0 r kd) 34 0 r (nI a)) 35 0 r to) 36 0 (ix (nI r)) og, c))) rfl (ib_nI (j := r) (len := 25) (by omega) (by omega)) ?_
    rw [ix_nI (j := r) (by omega)]
    refine G_steps 4 (S1 := (84, [some (Sum.inr (Sum.inl (20, 0))), some (Sum.inl kd), some (Sum.inl (nI a)), some (Sum.inl to), some (Sum.inl og), some (Sum.inl tg), some (Sum.inl pn), some (Sum.inl (-1)), some (Sum.inl (-1))], [Sum.inl (u 20 0 13), Sum.inr (Sum.inl (37, 0))], (v, m_u3 (m_u3 (m_u3 (m_u3 u 33 0 r kd) 34 0 r (nI a)) 35 0 r to) 36 0 r og, c))) rfl rfl ?_
    refine G_top hr ?_
    refine G_steps 1 (S1 := (86, [some (Sum.inr (Sum.inl (20, 0))), some (Sum.inl kd), some (Sum.inl (nI a)), some (Sum.inl to), some (Sum.inl og), some (Sum.inl tg), some (Sum.inl pn), some (Sum.inl (-1)), some (Sum.inl (-1))], [Sum.inl tg, Sum.inl (nI r), Sum.inr (Sum.inl (37, 0))], (v, m_u3 (m_u3 (m_u3 (m_u3 u 33 0 r kd) 34 0 r (nI a)) 35 0 r to) 36 0 r og, c))) rfl rfl ?_
    refine G_step (S1 := (87, [some (Sum.inr (Sum.inl (20, 0))), some (Sum.inl kd), some (Sum.inl (nI a)), some (Sum.inl to), some (Sum.inl og), some (Sum.inl tg), some (Sum.inl pn), some (Sum.inl (-1)), some (Sum.inl (-1))], [], (v, m_u3 (m_u3 (m_u3 (m_u3 (m_u3 u 33 0 r kd) 34 0 r (nI a)) 35 0 r to) 36 0 r og) 37 0 (ix (nI r)) tg, c))) rfl (ib_nI (j := r) (len := 25) (by omega) (by omega)) ?_
    rw [ix_nI (j := r) (by omega)]
    refine G_steps 4 (S1 := (95, [some (Sum.inr (Sum.inl (20, 0))), some (Sum.inl kd), some (Sum.inl (nI a)), some (Sum.inl to), some (Sum.inl og), some (Sum.inl tg), some (Sum.inl pn), some (Sum.inl (-1)), some (Sum.inl (-1))], [Sum.inl (u 20 0 13), Sum.inr (Sum.inl (38, 0))], (v, m_u3 (m_u3 (m_u3 (m_u3 (m_u3 u 33 0 r kd) 34 0 r (nI a)) 35 0 r to) 36 0 r og) 37 0 r tg, c))) rfl rfl ?_
    refine G_top hr ?_
    refine G_steps 1 (S1 := (97, [some (Sum.inr (Sum.inl (20, 0))), some (Sum.inl kd), some (Sum.inl (nI a)), some (Sum.inl to), some (Sum.inl og), some (Sum.inl tg), some (Sum.inl pn), some (Sum.inl (-1)), some (Sum.inl (-1))], [Sum.inl pn, Sum.inl (nI r), Sum.inr (Sum.inl (38, 0))], (v, m_u3 (m_u3 (m_u3 (m_u3 (m_u3 u 33 0 r kd) 34 0 r (nI a)) 35 0 r to) 36 0 r og) 37 0 r tg, c))) rfl rfl ?_
    refine G_step (S1 := (98, [some (Sum.inr (Sum.inl (20, 0))), some (Sum.inl kd), some (Sum.inl (nI a)), some (Sum.inl to), some (Sum.inl og), some (Sum.inl tg), some (Sum.inl pn), some (Sum.inl (-1)), some (Sum.inl (-1))], [], (v, m_u3 (m_u3 (m_u3 (m_u3 (m_u3 (m_u3 u 33 0 r kd) 34 0 r (nI a)) 35 0 r to) 36 0 r og) 37 0 r tg) 38 0 (ix (nI r)) pn, c))) rfl (ib_nI (j := r) (len := 25) (by omega) (by omega)) ?_
    rw [ix_nI (j := r) (by omega)]
    refine G_steps 4 (S1 := (106, [some (Sum.inr (Sum.inl (20, 0))), some (Sum.inl kd), some (Sum.inl (nI a)), some (Sum.inl to), some (Sum.inl og), some (Sum.inl tg), some (Sum.inl pn), some (Sum.inl (-1)), some (Sum.inl (-1))], [Sum.inl (u 20 0 13), Sum.inr (Sum.inl (39, 0))], (v, m_u3 (m_u3 (m_u3 (m_u3 (m_u3 (m_u3 u 33 0 r kd) 34 0 r (nI a)) 35 0 r to) 36 0 r og) 37 0 r tg) 38 0 r pn, c))) rfl rfl ?_
    refine G_top hr ?_
    refine G_steps 1 (S1 := (107, [some (Sum.inr (Sum.inl (20, 0))), some (Sum.inl kd), some (Sum.inl (nI a)), some (Sum.inl to), some (Sum.inl og), some (Sum.inl tg), some (Sum.inl pn), some (Sum.inl (-1)), some (Sum.inl (-1))], [Sum.inl 0, Sum.inl (nI r), Sum.inr (Sum.inl (39, 0))], (v, m_u3 (m_u3 (m_u3 (m_u3 (m_u3 (m_u3 u 33 0 r kd) 34 0 r (nI a)) 35 0 r to) 36 0 r og) 37 0 r tg) 38 0 r pn, c))) rfl rfl ?_
    refine G_step (S1 := (108, [some (Sum.inr (Sum.inl (20, 0))), some (Sum.inl kd), some (Sum.inl (nI a)), some (Sum.inl to), some (Sum.inl og), some (Sum.inl tg), some (Sum.inl pn), some (Sum.inl (-1)), some (Sum.inl (-1))], [], (v, m_u3 (m_u3 (m_u3 (m_u3 (m_u3 (m_u3 (m_u3 u 33 0 r kd) 34 0 r (nI a)) 35 0 r to) 36 0 r og) 37 0 r tg) 38 0 r pn) 39 0 (ix (nI r)) 0, c))) rfl (ib_nI (j := r) (len := 25) (by omega) (by omega)) ?_
    rw [ix_nI (j := r) (by omega)]
    refine G_steps 2 (S1 := (if (-1) < 0 then 120 else 113, [some (Sum.inr (Sum.inl (20, 0))), some (Sum.inl kd), some (Sum.inl (nI a)), some (Sum.inl to), some (Sum.inl og), some (Sum.inl tg), some (Sum.inl pn), some (Sum.inl (-1)), some (Sum.inl (-1))], [], (v, m_u3 (m_u3 (m_u3 (m_u3 (m_u3 (m_u3 (m_u3 u 33 0 r kd) 34 0 r (nI a)) 35 0 r to) 36 0 r og) 37 0 r tg) 38 0 r pn) 39 0 r 0, c))) rfl rfl ?_
    refine G_iT (by decide) ?_
    refine G_steps 2 (S1 := (if (-1) < 0 then 132 else 125, [some (Sum.inr (Sum.inl (20, 0))), some (Sum.inl kd), some (Sum.inl (nI a)), some (Sum.inl to), some (Sum.inl og), some (Sum.inl tg), some (Sum.inl pn), some (Sum.inl (-1)), some (Sum.inl (-1))], [], (v, m_u3 (m_u3 (m_u3 (m_u3 (m_u3 (m_u3 (m_u3 u 33 0 r kd) 34 0 r (nI a)) 35 0 r to) 36 0 r og) 37 0 r tg) 38 0 r pn) 39 0 r 0, c))) rfl rfl ?_
    refine G_iT (by decide) ?_
    refine G_steps 3 (S1 := (137, [some (Sum.inr (Sum.inl (20, 0))), some (Sum.inl kd), some (Sum.inl (nI a)), some (Sum.inl to), some (Sum.inl og), some (Sum.inl tg), some (Sum.inl pn), some (Sum.inl (-1)), some (Sum.inl (-1))], [Sum.inl (u 20 0 13), Sum.inr (Sum.inl (20, 0))], (v, m_u3 (m_u3 (m_u3 (m_u3 (m_u3 (m_u3 (m_u3 u 33 0 r kd) 34 0 r (nI a)) 35 0 r to) 36 0 r og) 37 0 r tg) 38 0 r pn) 39 0 r 0, c))) rfl rfl ?_
    refine G_top hr ?_
    refine G_steps 2 (S1 := (139, [some (Sum.inr (Sum.inl (20, 0))), some (Sum.inl kd), some (Sum.inl (nI a)), some (Sum.inl to), some (Sum.inl og), some (Sum.inl tg), some (Sum.inl pn), some (Sum.inl (-1)), some (Sum.inl (-1))], [Sum.inl ((nI r) + 1), Sum.inr (Sum.inl (20, 0))], (v, m_u3 (m_u3 (m_u3 (m_u3 (m_u3 (m_u3 (m_u3 u 33 0 r kd) 34 0 r (nI a)) 35 0 r to) 36 0 r og) 37 0 r tg) 38 0 r pn) 39 0 r 0, c))) rfl rfl ?_
    refine G_top ((nI_succ r).symm) ?_
    refine G_steps 4 (S1 := (146, [some (Sum.inr (Sum.inl (20, 0))), some (Sum.inl kd), some (Sum.inl (nI a)), some (Sum.inl to), some (Sum.inl og), some (Sum.inl tg), some (Sum.inl pn), some (Sum.inl (-1)), some (Sum.inl (-1))], [Sum.inl (-1), Sum.inl (nI a), Sum.inr (Sum.inl (20, 0))], (v, m_u3 (m_u3 (m_u3 (m_u3 (m_u3 (m_u3 (m_u3 (m_u3 u 33 0 r kd) 34 0 r (nI a)) 35 0 r to) 36 0 r og) 37 0 r tg) 38 0 r pn) 39 0 r 0) 20 0 13 (nI (r + 1)), c))) rfl rfl ?_
    refine G_call (y := none) (M1 := (v, m_u3 (m_u3 (m_u3 (m_u3 (m_u3 (m_u3 (m_u3 (m_u3 u 33 0 r kd) 34 0 r (nI a)) 35 0 r to) 36 0 r og) 37 0 r tg) 38 0 r pn) 39 0 r 0) 20 0 13 (nI (r + 1)), c)) rfl rfl (e_m_spend0 _) ?_
    refine G_is (S' := (149, [some (Sum.inr (Sum.inl (20, 0))), some (Sum.inl kd), some (Sum.inl (nI a)), some (Sum.inl to), some (Sum.inl og), some (Sum.inl tg), some (Sum.inl pn), some (Sum.inl (-1)), some (Sum.inl (-1))], [], (v, m_u3 (m_u3 (m_u3 (m_u3 (m_u3 (m_u3 (m_u3 (m_u3 u 33 0 r kd) 34 0 r (nI a)) 35 0 r to) 36 0 r og) 37 0 r tg) 38 0 r pn) 39 0 r 0) 20 0 13 (nI (r + 1)), c))) rfl ?_
    refine G_steps 3 (S1 := (153, [some (Sum.inr (Sum.inl (20, 0))), some (Sum.inl kd), some (Sum.inl (nI a)), some (Sum.inl to), some (Sum.inl og), some (Sum.inl tg), some (Sum.inl pn), some (Sum.inl (-1)), some (Sum.inl (-1))], [Sum.inl (-1), Sum.inl (nI a), Sum.inr (Sum.inl (20, 0))], (v, m_u3 (m_u3 (m_u3 (m_u3 (m_u3 (m_u3 (m_u3 (m_u3 u 33 0 r kd) 34 0 r (nI a)) 35 0 r to) 36 0 r og) 37 0 r tg) 38 0 r pn) 39 0 r 0) 20 0 13 (nI (r + 1)), c))) rfl rfl ?_
    refine G_call (y := none) (M1 := (v, m_u3 (m_u3 (m_u3 (m_u3 (m_u3 (m_u3 (m_u3 (m_u3 u 33 0 r kd) 34 0 r (nI a)) 35 0 r to) 36 0 r og) 37 0 r tg) 38 0 r pn) 39 0 r 0) 20 0 13 (nI (r + 1)), c)) rfl rfl (e_m_spend0 _) ?_
    refine G_is (S' := (156, [some (Sum.inr (Sum.inl (20, 0))), some (Sum.inl kd), some (Sum.inl (nI a)), some (Sum.inl to), some (Sum.inl og), some (Sum.inl tg), some (Sum.inl pn), some (Sum.inl (-1)), some (Sum.inl (-1))], [], (v, m_u3 (m_u3 (m_u3 (m_u3 (m_u3 (m_u3 (m_u3 (m_u3 u 33 0 r kd) 34 0 r (nI a)) 35 0 r to) 36 0 r og) 37 0 r tg) 38 0 r pn) 39 0 r 0) 20 0 13 (nI (r + 1)), c))) rfl ?_
    exact G_fin rfl rfl (M_2 (by simp only [d_send, d_two, d_c2, d_f7, hp, d_sp, if_neg h1]; try rfl))
set_option maxRecDepth 100000 in
theorem e_m_send1 (d : Nat) {n L : Nat} {xs : Nat → Int32} {v u : mV} {c : Nat} {a r : Nat} {kd to og tg pn : Int32} (hn : n ≤ 6) (hf : F_m n u) (ha : a < n) (hr : u 20 0 13 = nI r) (hr2 : r ≤ 24) {f : Nat} (hp : d_lo u a (-1) n = some f) (hp2 : d_lo u a (nI f) n = none) (hfn : f < n) : E_v false n L xs (d + 2) 57 [Sum.inr (Sum.inl (20, 0)), Sum.inl kd, Sum.inl (nI a), Sum.inl to, Sum.inl og, Sum.inl tg, Sum.inl pn] (v, u, c) none (v, d_send n u a kd to og tg pn r, c) := by
  refine E_mk mc_57 (by decide) ?_
  refine G_steps 3 (S1 := (3, [some (Sum.inr (Sum.inl (20, 0))), some (Sum.inl kd), some (Sum.inl (nI a)), some (Sum.inl to), some (Sum.inl og), some (Sum.inl tg), some (Sum.inl pn), none, none], [Sum.inl (-1), Sum.inl (nI a), Sum.inr (Sum.inl (20, 0))], (v, u, c))) rfl rfl ?_
  refine G_call (y := some (Sum.inl (oI (d_lo u a (-1) n)))) (M1 := (v, u, c)) rfl rfl (e_m_pick _ hn hf ha) ?_
  refine G_is (S' := (6, [some (Sum.inr (Sum.inl (20, 0))), some (Sum.inl kd), some (Sum.inl (nI a)), some (Sum.inl to), some (Sum.inl og), some (Sum.inl tg), some (Sum.inl pn), none, none], [Sum.inl (oI (d_lo u a (-1) n))], (v, u, c))) rfl ?_
  refine G_top (congrArg oI hp) ?_
  refine G_steps 3 (S1 := (if 0 ≤ nI f then 17 else 13, [some (Sum.inr (Sum.inl (20, 0))), some (Sum.inl kd), some (Sum.inl (nI a)), some (Sum.inl to), some (Sum.inl og), some (Sum.inl tg), some (Sum.inl pn), some (Sum.inl (nI f)), none], [], (v, u, c))) rfl rfl ?_
  refine G_iT (nI_pos' (by omega)) ?_
  refine G_steps 3 (S1 := (21, [some (Sum.inr (Sum.inl (20, 0))), some (Sum.inl kd), some (Sum.inl (nI a)), some (Sum.inl to), some (Sum.inl og), some (Sum.inl tg), some (Sum.inl pn), some (Sum.inl (nI f)), none], [Sum.inl (nI f), Sum.inl (nI a), Sum.inr (Sum.inl (20, 0))], (v, u, c))) rfl rfl ?_
  refine G_call (y := some (Sum.inl (oI (d_lo u a (nI f) n)))) (M1 := (v, u, c)) rfl rfl (e_m_pick _ hn hf ha) ?_
  refine G_is (S' := (24, [some (Sum.inr (Sum.inl (20, 0))), some (Sum.inl kd), some (Sum.inl (nI a)), some (Sum.inl to), some (Sum.inl og), some (Sum.inl tg), some (Sum.inl pn), some (Sum.inl (nI f)), none], [Sum.inl (oI (d_lo u a (nI f) n))], (v, u, c))) rfl ?_
  refine G_top (congrArg oI hp2) ?_
  refine G_steps 3 (S1 := (30, [some (Sum.inr (Sum.inl (20, 0))), some (Sum.inl kd), some (Sum.inl (nI a)), some (Sum.inl to), some (Sum.inl og), some (Sum.inl tg), some (Sum.inl pn), some (Sum.inl (nI f)), some (Sum.inl (-1))], [Sum.inl (u 20 0 13)], (v, u, c))) rfl rfl ?_
  refine G_top hr ?_
  refine G_steps 2 (S1 := (if 24 ≤ nI r then 142 else 35, [some (Sum.inr (Sum.inl (20, 0))), some (Sum.inl kd), some (Sum.inl (nI a)), some (Sum.inl to), some (Sum.inl og), some (Sum.inl tg), some (Sum.inl pn), some (Sum.inl (nI f)), some (Sum.inl (-1))], [], (v, u, c))) rfl rfl ?_
  refine G_if (fun h1 => ?_) (fun h1 => ?_)
  · skip
    refine G_steps 3 (S1 := (146, [some (Sum.inr (Sum.inl (20, 0))), some (Sum.inl kd), some (Sum.inl (nI a)), some (Sum.inl to), some (Sum.inl og), some (Sum.inl tg), some (Sum.inl pn), some (Sum.inl (nI f)), some (Sum.inl (-1))], [Sum.inl (nI f), Sum.inl (nI a), Sum.inr (Sum.inl (20, 0))], (v, u, c))) rfl rfl ?_
    refine G_call (y := none) (M1 := (v, d_sp u a (some f), c)) rfl rfl (e_m_spend1 _ hn ha (dlo_lt n f hp)) ?_
    refine G_is (S' := (149, [some (Sum.inr (Sum.inl (20, 0))), some (Sum.inl kd), some (Sum.inl (nI a)), some (Sum.inl to), some (Sum.inl og), some (Sum.inl tg), some (Sum.inl pn), some (Sum.inl (nI f)), some (Sum.inl (-1))], [], (v, d_sp u a (some f), c))) rfl ?_
    refine G_steps 3 (S1 := (153, [some (Sum.inr (Sum.inl (20, 0))), some (Sum.inl kd), some (Sum.inl (nI a)), some (Sum.inl to), some (Sum.inl og), some (Sum.inl tg), some (Sum.inl pn), some (Sum.inl (nI f)), some (Sum.inl (-1))], [Sum.inl (-1), Sum.inl (nI a), Sum.inr (Sum.inl (20, 0))], (v, d_sp u a (some f), c))) rfl rfl ?_
    refine G_call (y := none) (M1 := (v, d_sp u a (some f), c)) rfl rfl (e_m_spend0 _) ?_
    refine G_is (S' := (156, [some (Sum.inr (Sum.inl (20, 0))), some (Sum.inl kd), some (Sum.inl (nI a)), some (Sum.inl to), some (Sum.inl og), some (Sum.inl tg), some (Sum.inl pn), some (Sum.inl (nI f)), some (Sum.inl (-1))], [], (v, d_sp u a (some f), c))) rfl ?_
    exact G_fin rfl rfl (M_2 (by simp only [d_send, d_two, d_c2, d_f7, hp, hp2, if_pos h1]; try rfl))
  · skip
    refine G_steps 4 (S1 := (43, [some (Sum.inr (Sum.inl (20, 0))), some (Sum.inl kd), some (Sum.inl (nI a)), some (Sum.inl to), some (Sum.inl og), some (Sum.inl tg), some (Sum.inl pn), some (Sum.inl (nI f)), some (Sum.inl (-1))], [Sum.inl (u 20 0 13), Sum.inr (Sum.inl (33, 0))], (v, u, c))) rfl rfl ?_
    refine G_top hr ?_
    refine G_steps 1 (S1 := (44, [some (Sum.inr (Sum.inl (20, 0))), some (Sum.inl kd), some (Sum.inl (nI a)), some (Sum.inl to), some (Sum.inl og), some (Sum.inl tg), some (Sum.inl pn), some (Sum.inl (nI f)), some (Sum.inl (-1))], [Sum.inl kd, Sum.inl (nI r), Sum.inr (Sum.inl (33, 0))], (v, u, c))) rfl rfl ?_
    refine G_step (S1 := (45, [some (Sum.inr (Sum.inl (20, 0))), some (Sum.inl kd), some (Sum.inl (nI a)), some (Sum.inl to), some (Sum.inl og), some (Sum.inl tg), some (Sum.inl pn), some (Sum.inl (nI f)), some (Sum.inl (-1))], [], (v, m_u3 u 33 0 (ix (nI r)) kd, c))) rfl (ib_nI (j := r) (len := 25) (by omega) (by omega)) ?_
    rw [ix_nI (j := r) (by omega)]
    refine G_steps 4 (S1 := (53, [some (Sum.inr (Sum.inl (20, 0))), some (Sum.inl kd), some (Sum.inl (nI a)), some (Sum.inl to), some (Sum.inl og), some (Sum.inl tg), some (Sum.inl pn), some (Sum.inl (nI f)), some (Sum.inl (-1))], [Sum.inl (u 20 0 13), Sum.inr (Sum.inl (34, 0))], (v, m_u3 u 33 0 r kd, c))) rfl rfl ?_
    refine G_top hr ?_
    refine G_steps 1 (S1 := (54, [some (Sum.inr (Sum.inl (20, 0))), some (Sum.inl kd), some (Sum.inl (nI a)), some (Sum.inl to), some (Sum.inl og), some (Sum.inl tg), some (Sum.inl pn), some (Sum.inl (nI f)), some (Sum.inl (-1))], [Sum.inl (nI a), Sum.inl (nI r), Sum.inr (Sum.inl (34, 0))], (v, m_u3 u 33 0 r kd, c))) rfl rfl ?_
    refine G_step (S1 := (55, [some (Sum.inr (Sum.inl (20, 0))), some (Sum.inl kd), some (Sum.inl (nI a)), some (Sum.inl to), some (Sum.inl og), some (Sum.inl tg), some (Sum.inl pn), some (Sum.inl (nI f)), some (Sum.inl (-1))], [], (v, m_u3 (m_u3 u 33 0 r kd) 34 0 (ix (nI r)) (nI a), c))) rfl (ib_nI (j := r) (len := 25) (by omega) (by omega)) ?_
    rw [ix_nI (j := r) (by omega)]
    refine G_steps 4 (S1 := (63, [some (Sum.inr (Sum.inl (20, 0))), some (Sum.inl kd), some (Sum.inl (nI a)), some (Sum.inl to), some (Sum.inl og), some (Sum.inl tg), some (Sum.inl pn), some (Sum.inl (nI f)), some (Sum.inl (-1))], [Sum.inl (u 20 0 13), Sum.inr (Sum.inl (35, 0))], (v, m_u3 (m_u3 u 33 0 r kd) 34 0 r (nI a), c))) rfl rfl ?_
    refine G_top hr ?_
    refine G_steps 1 (S1 := (64, [some (Sum.inr (Sum.inl (20, 0))), some (Sum.inl kd), some (Sum.inl (nI a)), some (Sum.inl to), some (Sum.inl og), some (Sum.inl tg), some (Sum.inl pn), some (Sum.inl (nI f)), some (Sum.inl (-1))], [Sum.inl to, Sum.inl (nI r), Sum.inr (Sum.inl (35, 0))], (v, m_u3 (m_u3 u 33 0 r kd) 34 0 r (nI a), c))) rfl rfl ?_
    refine G_step (S1 := (65, [some (Sum.inr (Sum.inl (20, 0))), some (Sum.inl kd), some (Sum.inl (nI a)), some (Sum.inl to), some (Sum.inl og), some (Sum.inl tg), some (Sum.inl pn), some (Sum.inl (nI f)), some (Sum.inl (-1))], [], (v, m_u3 (m_u3 (m_u3 u 33 0 r kd) 34 0 r (nI a)) 35 0 (ix (nI r)) to, c))) rfl (ib_nI (j := r) (len := 25) (by omega) (by omega)) ?_
    rw [ix_nI (j := r) (by omega)]
    refine G_steps 4 (S1 := (73, [some (Sum.inr (Sum.inl (20, 0))), some (Sum.inl kd), some (Sum.inl (nI a)), some (Sum.inl to), some (Sum.inl og), some (Sum.inl tg), some (Sum.inl pn), some (Sum.inl (nI f)), some (Sum.inl (-1))], [Sum.inl (u 20 0 13), Sum.inr (Sum.inl (36, 0))], (v, m_u3 (m_u3 (m_u3 u 33 0 r kd) 34 0 r (nI a)) 35 0 r to, c))) rfl rfl ?_
    refine G_top hr ?_
    refine G_steps 1 (S1 := (75, [some (Sum.inr (Sum.inl (20, 0))), some (Sum.inl kd), some (Sum.inl (nI a)), some (Sum.inl to), some (Sum.inl og), some (Sum.inl tg), some (Sum.inl pn), some (Sum.inl (nI f)), some (Sum.inl (-1))], [Sum.inl og, Sum.inl (nI r), Sum.inr (Sum.inl (36, 0))], (v, m_u3 (m_u3 (m_u3 u 33 0 r kd) 34 0 r (nI a)) 35 0 r to, c))) rfl rfl ?_
    refine G_step (S1 := (76, [some (Sum.inr (Sum.inl (20, 0))), some (Sum.inl kd), some (Sum.inl (nI a)), some (Sum.inl to), some (Sum.inl og), some (Sum.inl tg), some (Sum.inl pn), some (Sum.inl (nI f)), some (Sum.inl (-1))], [], (v, m_u3 (m_u3 (m_u3 (m_u3 u 33 0 r kd) 34 0 r (nI a)) 35 0 r to) 36 0 (ix (nI r)) og, c))) rfl (ib_nI (j := r) (len := 25) (by omega) (by omega)) ?_
    rw [ix_nI (j := r) (by omega)]
    refine G_steps 4 (S1 := (84, [some (Sum.inr (Sum.inl (20, 0))), some (Sum.inl kd), some (Sum.inl (nI a)), some (Sum.inl to), some (Sum.inl og), some (Sum.inl tg), some (Sum.inl pn), some (Sum.inl (nI f)), some (Sum.inl (-1))], [Sum.inl (u 20 0 13), Sum.inr (Sum.inl (37, 0))], (v, m_u3 (m_u3 (m_u3 (m_u3 u 33 0 r kd) 34 0 r (nI a)) 35 0 r to) 36 0 r og, c))) rfl rfl ?_
    refine G_top hr ?_
    refine G_steps 1 (S1 := (86, [some (Sum.inr (Sum.inl (20, 0))), some (Sum.inl kd), some (Sum.inl (nI a)), some (Sum.inl to), some (Sum.inl og), some (Sum.inl tg), some (Sum.inl pn), some (Sum.inl (nI f)), some (Sum.inl (-1))], [Sum.inl tg, Sum.inl (nI r), Sum.inr (Sum.inl (37, 0))], (v, m_u3 (m_u3 (m_u3 (m_u3 u 33 0 r kd) 34 0 r (nI a)) 35 0 r to) 36 0 r og, c))) rfl rfl ?_
    refine G_step (S1 := (87, [some (Sum.inr (Sum.inl (20, 0))), some (Sum.inl kd), some (Sum.inl (nI a)), some (Sum.inl to), some (Sum.inl og), some (Sum.inl tg), some (Sum.inl pn), some (Sum.inl (nI f)), some (Sum.inl (-1))], [], (v, m_u3 (m_u3 (m_u3 (m_u3 (m_u3 u 33 0 r kd) 34 0 r (nI a)) 35 0 r to) 36 0 r og) 37 0 (ix (nI r)) tg, c))) rfl (ib_nI (j := r) (len := 25) (by omega) (by omega)) ?_
    rw [ix_nI (j := r) (by omega)]
    refine G_steps 4 (S1 := (95, [some (Sum.inr (Sum.inl (20, 0))), some (Sum.inl kd), some (Sum.inl (nI a)), some (Sum.inl to), some (Sum.inl og), some (Sum.inl tg), some (Sum.inl pn), some (Sum.inl (nI f)), some (Sum.inl (-1))], [Sum.inl (u 20 0 13), Sum.inr (Sum.inl (38, 0))], (v, m_u3 (m_u3 (m_u3 (m_u3 (m_u3 u 33 0 r kd) 34 0 r (nI a)) 35 0 r to) 36 0 r og) 37 0 r tg, c))) rfl rfl ?_
    refine G_top hr ?_
    refine G_steps 1 (S1 := (97, [some (Sum.inr (Sum.inl (20, 0))), some (Sum.inl kd), some (Sum.inl (nI a)), some (Sum.inl to), some (Sum.inl og), some (Sum.inl tg), some (Sum.inl pn), some (Sum.inl (nI f)), some (Sum.inl (-1))], [Sum.inl pn, Sum.inl (nI r), Sum.inr (Sum.inl (38, 0))], (v, m_u3 (m_u3 (m_u3 (m_u3 (m_u3 u 33 0 r kd) 34 0 r (nI a)) 35 0 r to) 36 0 r og) 37 0 r tg, c))) rfl rfl ?_
    refine G_step (S1 := (98, [some (Sum.inr (Sum.inl (20, 0))), some (Sum.inl kd), some (Sum.inl (nI a)), some (Sum.inl to), some (Sum.inl og), some (Sum.inl tg), some (Sum.inl pn), some (Sum.inl (nI f)), some (Sum.inl (-1))], [], (v, m_u3 (m_u3 (m_u3 (m_u3 (m_u3 (m_u3 u 33 0 r kd) 34 0 r (nI a)) 35 0 r to) 36 0 r og) 37 0 r tg) 38 0 (ix (nI r)) pn, c))) rfl (ib_nI (j := r) (len := 25) (by omega) (by omega)) ?_
    rw [ix_nI (j := r) (by omega)]
    refine G_steps 4 (S1 := (106, [some (Sum.inr (Sum.inl (20, 0))), some (Sum.inl kd), some (Sum.inl (nI a)), some (Sum.inl to), some (Sum.inl og), some (Sum.inl tg), some (Sum.inl pn), some (Sum.inl (nI f)), some (Sum.inl (-1))], [Sum.inl (u 20 0 13), Sum.inr (Sum.inl (39, 0))], (v, m_u3 (m_u3 (m_u3 (m_u3 (m_u3 (m_u3 u 33 0 r kd) 34 0 r (nI a)) 35 0 r to) 36 0 r og) 37 0 r tg) 38 0 r pn, c))) rfl rfl ?_
    refine G_top hr ?_
    refine G_steps 1 (S1 := (107, [some (Sum.inr (Sum.inl (20, 0))), some (Sum.inl kd), some (Sum.inl (nI a)), some (Sum.inl to), some (Sum.inl og), some (Sum.inl tg), some (Sum.inl pn), some (Sum.inl (nI f)), some (Sum.inl (-1))], [Sum.inl 0, Sum.inl (nI r), Sum.inr (Sum.inl (39, 0))], (v, m_u3 (m_u3 (m_u3 (m_u3 (m_u3 (m_u3 u 33 0 r kd) 34 0 r (nI a)) 35 0 r to) 36 0 r og) 37 0 r tg) 38 0 r pn, c))) rfl rfl ?_
    refine G_step (S1 := (108, [some (Sum.inr (Sum.inl (20, 0))), some (Sum.inl kd), some (Sum.inl (nI a)), some (Sum.inl to), some (Sum.inl og), some (Sum.inl tg), some (Sum.inl pn), some (Sum.inl (nI f)), some (Sum.inl (-1))], [], (v, m_u3 (m_u3 (m_u3 (m_u3 (m_u3 (m_u3 (m_u3 u 33 0 r kd) 34 0 r (nI a)) 35 0 r to) 36 0 r og) 37 0 r tg) 38 0 r pn) 39 0 (ix (nI r)) 0, c))) rfl (ib_nI (j := r) (len := 25) (by omega) (by omega)) ?_
    rw [ix_nI (j := r) (by omega)]
    refine G_steps 2 (S1 := (if nI f < 0 then 120 else 113, [some (Sum.inr (Sum.inl (20, 0))), some (Sum.inl kd), some (Sum.inl (nI a)), some (Sum.inl to), some (Sum.inl og), some (Sum.inl tg), some (Sum.inl pn), some (Sum.inl (nI f)), some (Sum.inl (-1))], [], (v, m_u3 (m_u3 (m_u3 (m_u3 (m_u3 (m_u3 (m_u3 u 33 0 r kd) 34 0 r (nI a)) 35 0 r to) 36 0 r og) 37 0 r tg) 38 0 r pn) 39 0 r 0, c))) rfl rfl ?_
    refine G_iF (nI_pos (by omega)) ?_
    refine G_steps 3 (S1 := (117, [some (Sum.inr (Sum.inl (20, 0))), some (Sum.inl kd), some (Sum.inl (nI a)), some (Sum.inl to), some (Sum.inl og), some (Sum.inl tg), some (Sum.inl pn), some (Sum.inl (nI f)), some (Sum.inl (-1))], [Sum.inl (nI f), Sum.inl (nI a), Sum.inr (Sum.inl (20, 0))], (v, m_u3 (m_u3 (m_u3 (m_u3 (m_u3 (m_u3 (m_u3 u 33 0 r kd) 34 0 r (nI a)) 35 0 r to) 36 0 r og) 37 0 r tg) 38 0 r pn) 39 0 r 0, c))) rfl rfl ?_
    refine G_call (y := none) (M1 := (v, d_car (m_u3 (m_u3 (m_u3 (m_u3 (m_u3 (m_u3 (m_u3 u 33 0 r kd) 34 0 r (nI a)) 35 0 r to) 36 0 r og) 37 0 r tg) 38 0 r pn) 39 0 r 0) a f r 0, c)) rfl rfl (e_m_carry (cnt := 0) _ hn ha (dlo_lt n f hp) hr (by omega) u3_s (by omega)) ?_
    refine G_is (S' := (120, [some (Sum.inr (Sum.inl (20, 0))), some (Sum.inl kd), some (Sum.inl (nI a)), some (Sum.inl to), some (Sum.inl og), some (Sum.inl tg), some (Sum.inl pn), some (Sum.inl (nI f)), some (Sum.inl (-1))], [], (v, d_car (m_u3 (m_u3 (m_u3 (m_u3 (m_u3 (m_u3 (m_u3 u 33 0 r kd) 34 0 r (nI a)) 35 0 r to) 36 0 r og) 37 0 r tg) 38 0 r pn) 39 0 r 0) a f r 0, c))) rfl ?_
    refine G_steps 2 (S1 := (if (-1) < 0 then 132 else 125, [some (Sum.inr (Sum.inl (20, 0))), some (Sum.inl kd), some (Sum.inl (nI a)), some (Sum.inl to), some (Sum.inl og), some (Sum.inl tg), some (Sum.inl pn), some (Sum.inl (nI f)), some (Sum.inl (-1))], [], (v, d_car (m_u3 (m_u3 (m_u3 (m_u3 (m_u3 (m_u3 (m_u3 u 33 0 r kd) 34 0 r (nI a)) 35 0 r to) 36 0 r og) 37 0 r tg) 38 0 r pn) 39 0 r 0) a f r 0, c))) rfl rfl ?_
    refine G_iT (by decide) ?_
    refine G_steps 3 (S1 := (137, [some (Sum.inr (Sum.inl (20, 0))), some (Sum.inl kd), some (Sum.inl (nI a)), some (Sum.inl to), some (Sum.inl og), some (Sum.inl tg), some (Sum.inl pn), some (Sum.inl (nI f)), some (Sum.inl (-1))], [Sum.inl ((d_car (m_u3 (m_u3 (m_u3 (m_u3 (m_u3 (m_u3 (m_u3 u 33 0 r kd) 34 0 r (nI a)) 35 0 r to) 36 0 r og) 37 0 r tg) 38 0 r pn) 39 0 r 0) a f r 0) 20 0 13), Sum.inr (Sum.inl (20, 0))], (v, d_car (m_u3 (m_u3 (m_u3 (m_u3 (m_u3 (m_u3 (m_u3 u 33 0 r kd) 34 0 r (nI a)) 35 0 r to) 36 0 r og) 37 0 r tg) 38 0 r pn) 39 0 r 0) a f r 0, c))) rfl rfl ?_
    refine G_top ((congrFun (congrFun (car_k (k := 20) rfl) 0) 13).trans hr) ?_
    refine G_steps 2 (S1 := (139, [some (Sum.inr (Sum.inl (20, 0))), some (Sum.inl kd), some (Sum.inl (nI a)), some (Sum.inl to), some (Sum.inl og), some (Sum.inl tg), some (Sum.inl pn), some (Sum.inl (nI f)), some (Sum.inl (-1))], [Sum.inl ((nI r) + 1), Sum.inr (Sum.inl (20, 0))], (v, d_car (m_u3 (m_u3 (m_u3 (m_u3 (m_u3 (m_u3 (m_u3 u 33 0 r kd) 34 0 r (nI a)) 35 0 r to) 36 0 r og) 37 0 r tg) 38 0 r pn) 39 0 r 0) a f r 0, c))) rfl rfl ?_
    refine G_top ((nI_succ r).symm) ?_
    refine G_steps 4 (S1 := (146, [some (Sum.inr (Sum.inl (20, 0))), some (Sum.inl kd), some (Sum.inl (nI a)), some (Sum.inl to), some (Sum.inl og), some (Sum.inl tg), some (Sum.inl pn), some (Sum.inl (nI f)), some (Sum.inl (-1))], [Sum.inl (nI f), Sum.inl (nI a), Sum.inr (Sum.inl (20, 0))], (v, m_u3 (d_car (m_u3 (m_u3 (m_u3 (m_u3 (m_u3 (m_u3 (m_u3 u 33 0 r kd) 34 0 r (nI a)) 35 0 r to) 36 0 r og) 37 0 r tg) 38 0 r pn) 39 0 r 0) a f r 0) 20 0 13 (nI (r + 1)), c))) rfl rfl ?_
    refine G_call (y := none) (M1 := (v, d_sp (m_u3 (d_car (m_u3 (m_u3 (m_u3 (m_u3 (m_u3 (m_u3 (m_u3 u 33 0 r kd) 34 0 r (nI a)) 35 0 r to) 36 0 r og) 37 0 r tg) 38 0 r pn) 39 0 r 0) a f r 0) 20 0 13 (nI (r + 1))) a (some f), c)) rfl rfl (e_m_spend1 _ hn ha (dlo_lt n f hp)) ?_
    refine G_is (S' := (149, [some (Sum.inr (Sum.inl (20, 0))), some (Sum.inl kd), some (Sum.inl (nI a)), some (Sum.inl to), some (Sum.inl og), some (Sum.inl tg), some (Sum.inl pn), some (Sum.inl (nI f)), some (Sum.inl (-1))], [], (v, d_sp (m_u3 (d_car (m_u3 (m_u3 (m_u3 (m_u3 (m_u3 (m_u3 (m_u3 u 33 0 r kd) 34 0 r (nI a)) 35 0 r to) 36 0 r og) 37 0 r tg) 38 0 r pn) 39 0 r 0) a f r 0) 20 0 13 (nI (r + 1))) a (some f), c))) rfl ?_
    refine G_steps 3 (S1 := (153, [some (Sum.inr (Sum.inl (20, 0))), some (Sum.inl kd), some (Sum.inl (nI a)), some (Sum.inl to), some (Sum.inl og), some (Sum.inl tg), some (Sum.inl pn), some (Sum.inl (nI f)), some (Sum.inl (-1))], [Sum.inl (-1), Sum.inl (nI a), Sum.inr (Sum.inl (20, 0))], (v, d_sp (m_u3 (d_car (m_u3 (m_u3 (m_u3 (m_u3 (m_u3 (m_u3 (m_u3 u 33 0 r kd) 34 0 r (nI a)) 35 0 r to) 36 0 r og) 37 0 r tg) 38 0 r pn) 39 0 r 0) a f r 0) 20 0 13 (nI (r + 1))) a (some f), c))) rfl rfl ?_
    refine G_call (y := none) (M1 := (v, d_sp (m_u3 (d_car (m_u3 (m_u3 (m_u3 (m_u3 (m_u3 (m_u3 (m_u3 u 33 0 r kd) 34 0 r (nI a)) 35 0 r to) 36 0 r og) 37 0 r tg) 38 0 r pn) 39 0 r 0) a f r 0) 20 0 13 (nI (r + 1))) a (some f), c)) rfl rfl (e_m_spend0 _) ?_
    refine G_is (S' := (156, [some (Sum.inr (Sum.inl (20, 0))), some (Sum.inl kd), some (Sum.inl (nI a)), some (Sum.inl to), some (Sum.inl og), some (Sum.inl tg), some (Sum.inl pn), some (Sum.inl (nI f)), some (Sum.inl (-1))], [], (v, d_sp (m_u3 (d_car (m_u3 (m_u3 (m_u3 (m_u3 (m_u3 (m_u3 (m_u3 u 33 0 r kd) 34 0 r (nI a)) 35 0 r to) 36 0 r og) 37 0 r tg) 38 0 r pn) 39 0 r 0) a f r 0) 20 0 13 (nI (r + 1))) a (some f), c))) rfl ?_
    exact G_fin rfl rfl (M_2 (by simp only [d_send, d_two, d_c2, d_f7, hp, hp2, if_neg h1]; try rfl))
set_option maxRecDepth 100000 in
theorem e_m_send2 (d : Nat) {n L : Nat} {xs : Nat → Int32} {v u : mV} {c : Nat} {a r : Nat} {kd to og tg pn : Int32} (hn : n ≤ 6) (hf : F_m n u) (ha : a < n) (hr : u 20 0 13 = nI r) (hr2 : r ≤ 24) {f g : Nat} (hp : d_lo u a (-1) n = some f) (hp2 : d_lo u a (nI f) n = some g) (hfn : f < n) (hgn : g < n) : E_v false n L xs (d + 2) 57 [Sum.inr (Sum.inl (20, 0)), Sum.inl kd, Sum.inl (nI a), Sum.inl to, Sum.inl og, Sum.inl tg, Sum.inl pn] (v, u, c) none (v, d_send n u a kd to og tg pn r, c) := by
  refine E_mk mc_57 (by decide) ?_
  refine G_steps 3 (S1 := (3, [some (Sum.inr (Sum.inl (20, 0))), some (Sum.inl kd), some (Sum.inl (nI a)), some (Sum.inl to), some (Sum.inl og), some (Sum.inl tg), some (Sum.inl pn), none, none], [Sum.inl (-1), Sum.inl (nI a), Sum.inr (Sum.inl (20, 0))], (v, u, c))) rfl rfl ?_
  refine G_call (y := some (Sum.inl (oI (d_lo u a (-1) n)))) (M1 := (v, u, c)) rfl rfl (e_m_pick _ hn hf ha) ?_
  refine G_is (S' := (6, [some (Sum.inr (Sum.inl (20, 0))), some (Sum.inl kd), some (Sum.inl (nI a)), some (Sum.inl to), some (Sum.inl og), some (Sum.inl tg), some (Sum.inl pn), none, none], [Sum.inl (oI (d_lo u a (-1) n))], (v, u, c))) rfl ?_
  refine G_top (congrArg oI hp) ?_
  refine G_steps 3 (S1 := (if 0 ≤ nI f then 17 else 13, [some (Sum.inr (Sum.inl (20, 0))), some (Sum.inl kd), some (Sum.inl (nI a)), some (Sum.inl to), some (Sum.inl og), some (Sum.inl tg), some (Sum.inl pn), some (Sum.inl (nI f)), none], [], (v, u, c))) rfl rfl ?_
  refine G_iT (nI_pos' (by omega)) ?_
  refine G_steps 3 (S1 := (21, [some (Sum.inr (Sum.inl (20, 0))), some (Sum.inl kd), some (Sum.inl (nI a)), some (Sum.inl to), some (Sum.inl og), some (Sum.inl tg), some (Sum.inl pn), some (Sum.inl (nI f)), none], [Sum.inl (nI f), Sum.inl (nI a), Sum.inr (Sum.inl (20, 0))], (v, u, c))) rfl rfl ?_
  refine G_call (y := some (Sum.inl (oI (d_lo u a (nI f) n)))) (M1 := (v, u, c)) rfl rfl (e_m_pick _ hn hf ha) ?_
  refine G_is (S' := (24, [some (Sum.inr (Sum.inl (20, 0))), some (Sum.inl kd), some (Sum.inl (nI a)), some (Sum.inl to), some (Sum.inl og), some (Sum.inl tg), some (Sum.inl pn), some (Sum.inl (nI f)), none], [Sum.inl (oI (d_lo u a (nI f) n))], (v, u, c))) rfl ?_
  refine G_top (congrArg oI hp2) ?_
  refine G_steps 3 (S1 := (30, [some (Sum.inr (Sum.inl (20, 0))), some (Sum.inl kd), some (Sum.inl (nI a)), some (Sum.inl to), some (Sum.inl og), some (Sum.inl tg), some (Sum.inl pn), some (Sum.inl (nI f)), some (Sum.inl (nI g))], [Sum.inl (u 20 0 13)], (v, u, c))) rfl rfl ?_
  refine G_top hr ?_
  refine G_steps 2 (S1 := (if 24 ≤ nI r then 142 else 35, [some (Sum.inr (Sum.inl (20, 0))), some (Sum.inl kd), some (Sum.inl (nI a)), some (Sum.inl to), some (Sum.inl og), some (Sum.inl tg), some (Sum.inl pn), some (Sum.inl (nI f)), some (Sum.inl (nI g))], [], (v, u, c))) rfl rfl ?_
  refine G_if (fun h1 => ?_) (fun h1 => ?_)
  · skip
    refine G_steps 3 (S1 := (146, [some (Sum.inr (Sum.inl (20, 0))), some (Sum.inl kd), some (Sum.inl (nI a)), some (Sum.inl to), some (Sum.inl og), some (Sum.inl tg), some (Sum.inl pn), some (Sum.inl (nI f)), some (Sum.inl (nI g))], [Sum.inl (nI f), Sum.inl (nI a), Sum.inr (Sum.inl (20, 0))], (v, u, c))) rfl rfl ?_
    refine G_call (y := none) (M1 := (v, d_sp u a (some f), c)) rfl rfl (e_m_spend1 _ hn ha (dlo_lt n f hp)) ?_
    refine G_is (S' := (149, [some (Sum.inr (Sum.inl (20, 0))), some (Sum.inl kd), some (Sum.inl (nI a)), some (Sum.inl to), some (Sum.inl og), some (Sum.inl tg), some (Sum.inl pn), some (Sum.inl (nI f)), some (Sum.inl (nI g))], [], (v, d_sp u a (some f), c))) rfl ?_
    refine G_steps 3 (S1 := (153, [some (Sum.inr (Sum.inl (20, 0))), some (Sum.inl kd), some (Sum.inl (nI a)), some (Sum.inl to), some (Sum.inl og), some (Sum.inl tg), some (Sum.inl pn), some (Sum.inl (nI f)), some (Sum.inl (nI g))], [Sum.inl (nI g), Sum.inl (nI a), Sum.inr (Sum.inl (20, 0))], (v, d_sp u a (some f), c))) rfl rfl ?_
    refine G_call (y := none) (M1 := (v, d_sp (d_sp u a (some f)) a (some g), c)) rfl rfl (e_m_spend1 _ hn ha (dlo_lt n g hp2)) ?_
    refine G_is (S' := (156, [some (Sum.inr (Sum.inl (20, 0))), some (Sum.inl kd), some (Sum.inl (nI a)), some (Sum.inl to), some (Sum.inl og), some (Sum.inl tg), some (Sum.inl pn), some (Sum.inl (nI f)), some (Sum.inl (nI g))], [], (v, d_sp (d_sp u a (some f)) a (some g), c))) rfl ?_
    exact G_fin rfl rfl (M_2 (by simp only [d_send, d_two, d_c2, d_f7, hp, hp2, if_pos h1]; try rfl))
  · skip
    refine G_steps 4 (S1 := (43, [some (Sum.inr (Sum.inl (20, 0))), some (Sum.inl kd), some (Sum.inl (nI a)), some (Sum.inl to), some (Sum.inl og), some (Sum.inl tg), some (Sum.inl pn), some (Sum.inl (nI f)), some (Sum.inl (nI g))], [Sum.inl (u 20 0 13), Sum.inr (Sum.inl (33, 0))], (v, u, c))) rfl rfl ?_
    refine G_top hr ?_
    refine G_steps 1 (S1 := (44, [some (Sum.inr (Sum.inl (20, 0))), some (Sum.inl kd), some (Sum.inl (nI a)), some (Sum.inl to), some (Sum.inl og), some (Sum.inl tg), some (Sum.inl pn), some (Sum.inl (nI f)), some (Sum.inl (nI g))], [Sum.inl kd, Sum.inl (nI r), Sum.inr (Sum.inl (33, 0))], (v, u, c))) rfl rfl ?_
    refine G_step (S1 := (45, [some (Sum.inr (Sum.inl (20, 0))), some (Sum.inl kd), some (Sum.inl (nI a)), some (Sum.inl to), some (Sum.inl og), some (Sum.inl tg), some (Sum.inl pn), some (Sum.inl (nI f)), some (Sum.inl (nI g))], [], (v, m_u3 u 33 0 (ix (nI r)) kd, c))) rfl (ib_nI (j := r) (len := 25) (by omega) (by omega)) ?_
    rw [ix_nI (j := r) (by omega)]
    refine G_steps 4 (S1 := (53, [some (Sum.inr (Sum.inl (20, 0))), some (Sum.inl kd), some (Sum.inl (nI a)), some (Sum.inl to), some (Sum.inl og), some (Sum.inl tg), some (Sum.inl pn), some (Sum.inl (nI f)), some (Sum.inl (nI g))], [Sum.inl (u 20 0 13), Sum.inr (Sum.inl (34, 0))], (v, m_u3 u 33 0 r kd, c))) rfl rfl ?_
    refine G_top hr ?_
    refine G_steps 1 (S1 := (54, [some (Sum.inr (Sum.inl (20, 0))), some (Sum.inl kd), some (Sum.inl (nI a)), some (Sum.inl to), some (Sum.inl og), some (Sum.inl tg), some (Sum.inl pn), some (Sum.inl (nI f)), some (Sum.inl (nI g))], [Sum.inl (nI a), Sum.inl (nI r), Sum.inr (Sum.inl (34, 0))], (v, m_u3 u 33 0 r kd, c))) rfl rfl ?_
    refine G_step (S1 := (55, [some (Sum.inr (Sum.inl (20, 0))), some (Sum.inl kd), some (Sum.inl (nI a)), some (Sum.inl to), some (Sum.inl og), some (Sum.inl tg), some (Sum.inl pn), some (Sum.inl (nI f)), some (Sum.inl (nI g))], [], (v, m_u3 (m_u3 u 33 0 r kd) 34 0 (ix (nI r)) (nI a), c))) rfl (ib_nI (j := r) (len := 25) (by omega) (by omega)) ?_
    rw [ix_nI (j := r) (by omega)]
    refine G_steps 4 (S1 := (63, [some (Sum.inr (Sum.inl (20, 0))), some (Sum.inl kd), some (Sum.inl (nI a)), some (Sum.inl to), some (Sum.inl og), some (Sum.inl tg), some (Sum.inl pn), some (Sum.inl (nI f)), some (Sum.inl (nI g))], [Sum.inl (u 20 0 13), Sum.inr (Sum.inl (35, 0))], (v, m_u3 (m_u3 u 33 0 r kd) 34 0 r (nI a), c))) rfl rfl ?_
    refine G_top hr ?_
    refine G_steps 1 (S1 := (64, [some (Sum.inr (Sum.inl (20, 0))), some (Sum.inl kd), some (Sum.inl (nI a)), some (Sum.inl to), some (Sum.inl og), some (Sum.inl tg), some (Sum.inl pn), some (Sum.inl (nI f)), some (Sum.inl (nI g))], [Sum.inl to, Sum.inl (nI r), Sum.inr (Sum.inl (35, 0))], (v, m_u3 (m_u3 u 33 0 r kd) 34 0 r (nI a), c))) rfl rfl ?_
    refine G_step (S1 := (65, [some (Sum.inr (Sum.inl (20, 0))), some (Sum.inl kd), some (Sum.inl (nI a)), some (Sum.inl to), some (Sum.inl og), some (Sum.inl tg), some (Sum.inl pn), some (Sum.inl (nI f)), some (Sum.inl (nI g))], [], (v, m_u3 (m_u3 (m_u3 u 33 0 r kd) 34 0 r (nI a)) 35 0 (ix (nI r)) to, c))) rfl (ib_nI (j := r) (len := 25) (by omega) (by omega)) ?_
    rw [ix_nI (j := r) (by omega)]
    refine G_steps 4 (S1 := (73, [some (Sum.inr (Sum.inl (20, 0))), some (Sum.inl kd), some (Sum.inl (nI a)), some (Sum.inl to), some (Sum.inl og), some (Sum.inl tg), some (Sum.inl pn), some (Sum.inl (nI f)), some (Sum.inl (nI g))], [Sum.inl (u 20 0 13), Sum.inr (Sum.inl (36, 0))], (v, m_u3 (m_u3 (m_u3 u 33 0 r kd) 34 0 r (nI a)) 35 0 r to, c))) rfl rfl ?_
    refine G_top hr ?_
    refine G_steps 1 (S1 := (75, [some (Sum.inr (Sum.inl (20, 0))), some (Sum.inl kd), some (Sum.inl (nI a)), some (Sum.inl to), some (Sum.inl og), some (Sum.inl tg), some (Sum.inl pn), some (Sum.inl (nI f)), some (Sum.inl (nI g))], [Sum.inl og, Sum.inl (nI r), Sum.inr (Sum.inl (36, 0))], (v, m_u3 (m_u3 (m_u3 u 33 0 r kd) 34 0 r (nI a)) 35 0 r to, c))) rfl rfl ?_
    refine G_step (S1 := (76, [some (Sum.inr (Sum.inl (20, 0))), some (Sum.inl kd), some (Sum.inl (nI a)), some (Sum.inl to), some (Sum.inl og), some (Sum.inl tg), some (Sum.inl pn), some (Sum.inl (nI f)), some (Sum.inl (nI g))], [], (v, m_u3 (m_u3 (m_u3 (m_u3 u 33 0 r kd) 34 0 r (nI a)) 35 0 r to) 36 0 (ix (nI r)) og, c))) rfl (ib_nI (j := r) (len := 25) (by omega) (by omega)) ?_
    rw [ix_nI (j := r) (by omega)]
    refine G_steps 4 (S1 := (84, [some (Sum.inr (Sum.inl (20, 0))), some (Sum.inl kd), some (Sum.inl (nI a)), some (Sum.inl to), some (Sum.inl og), some (Sum.inl tg), some (Sum.inl pn), some (Sum.inl (nI f)), some (Sum.inl (nI g))], [Sum.inl (u 20 0 13), Sum.inr (Sum.inl (37, 0))], (v, m_u3 (m_u3 (m_u3 (m_u3 u 33 0 r kd) 34 0 r (nI a)) 35 0 r to) 36 0 r og, c))) rfl rfl ?_
    refine G_top hr ?_
    refine G_steps 1 (S1 := (86, [some (Sum.inr (Sum.inl (20, 0))), some (Sum.inl kd), some (Sum.inl (nI a)), some (Sum.inl to), some (Sum.inl og), some (Sum.inl tg), some (Sum.inl pn), some (Sum.inl (nI f)), some (Sum.inl (nI g))], [Sum.inl tg, Sum.inl (nI r), Sum.inr (Sum.inl (37, 0))], (v, m_u3 (m_u3 (m_u3 (m_u3 u 33 0 r kd) 34 0 r (nI a)) 35 0 r to) 36 0 r og, c))) rfl rfl ?_
    refine G_step (S1 := (87, [some (Sum.inr (Sum.inl (20, 0))), some (Sum.inl kd), some (Sum.inl (nI a)), some (Sum.inl to), some (Sum.inl og), some (Sum.inl tg), some (Sum.inl pn), some (Sum.inl (nI f)), some (Sum.inl (nI g))], [], (v, m_u3 (m_u3 (m_u3 (m_u3 (m_u3 u 33 0 r kd) 34 0 r (nI a)) 35 0 r to) 36 0 r og) 37 0 (ix (nI r)) tg, c))) rfl (ib_nI (j := r) (len := 25) (by omega) (by omega)) ?_
    rw [ix_nI (j := r) (by omega)]
    refine G_steps 4 (S1 := (95, [some (Sum.inr (Sum.inl (20, 0))), some (Sum.inl kd), some (Sum.inl (nI a)), some (Sum.inl to), some (Sum.inl og), some (Sum.inl tg), some (Sum.inl pn), some (Sum.inl (nI f)), some (Sum.inl (nI g))], [Sum.inl (u 20 0 13), Sum.inr (Sum.inl (38, 0))], (v, m_u3 (m_u3 (m_u3 (m_u3 (m_u3 u 33 0 r kd) 34 0 r (nI a)) 35 0 r to) 36 0 r og) 37 0 r tg, c))) rfl rfl ?_
    refine G_top hr ?_
    refine G_steps 1 (S1 := (97, [some (Sum.inr (Sum.inl (20, 0))), some (Sum.inl kd), some (Sum.inl (nI a)), some (Sum.inl to), some (Sum.inl og), some (Sum.inl tg), some (Sum.inl pn), some (Sum.inl (nI f)), some (Sum.inl (nI g))], [Sum.inl pn, Sum.inl (nI r), Sum.inr (Sum.inl (38, 0))], (v, m_u3 (m_u3 (m_u3 (m_u3 (m_u3 u 33 0 r kd) 34 0 r (nI a)) 35 0 r to) 36 0 r og) 37 0 r tg, c))) rfl rfl ?_
    refine G_step (S1 := (98, [some (Sum.inr (Sum.inl (20, 0))), some (Sum.inl kd), some (Sum.inl (nI a)), some (Sum.inl to), some (Sum.inl og), some (Sum.inl tg), some (Sum.inl pn), some (Sum.inl (nI f)), some (Sum.inl (nI g))], [], (v, m_u3 (m_u3 (m_u3 (m_u3 (m_u3 (m_u3 u 33 0 r kd) 34 0 r (nI a)) 35 0 r to) 36 0 r og) 37 0 r tg) 38 0 (ix (nI r)) pn, c))) rfl (ib_nI (j := r) (len := 25) (by omega) (by omega)) ?_
    rw [ix_nI (j := r) (by omega)]
    refine G_steps 4 (S1 := (106, [some (Sum.inr (Sum.inl (20, 0))), some (Sum.inl kd), some (Sum.inl (nI a)), some (Sum.inl to), some (Sum.inl og), some (Sum.inl tg), some (Sum.inl pn), some (Sum.inl (nI f)), some (Sum.inl (nI g))], [Sum.inl (u 20 0 13), Sum.inr (Sum.inl (39, 0))], (v, m_u3 (m_u3 (m_u3 (m_u3 (m_u3 (m_u3 u 33 0 r kd) 34 0 r (nI a)) 35 0 r to) 36 0 r og) 37 0 r tg) 38 0 r pn, c))) rfl rfl ?_
    refine G_top hr ?_
    refine G_steps 1 (S1 := (107, [some (Sum.inr (Sum.inl (20, 0))), some (Sum.inl kd), some (Sum.inl (nI a)), some (Sum.inl to), some (Sum.inl og), some (Sum.inl tg), some (Sum.inl pn), some (Sum.inl (nI f)), some (Sum.inl (nI g))], [Sum.inl 0, Sum.inl (nI r), Sum.inr (Sum.inl (39, 0))], (v, m_u3 (m_u3 (m_u3 (m_u3 (m_u3 (m_u3 u 33 0 r kd) 34 0 r (nI a)) 35 0 r to) 36 0 r og) 37 0 r tg) 38 0 r pn, c))) rfl rfl ?_
    refine G_step (S1 := (108, [some (Sum.inr (Sum.inl (20, 0))), some (Sum.inl kd), some (Sum.inl (nI a)), some (Sum.inl to), some (Sum.inl og), some (Sum.inl tg), some (Sum.inl pn), some (Sum.inl (nI f)), some (Sum.inl (nI g))], [], (v, m_u3 (m_u3 (m_u3 (m_u3 (m_u3 (m_u3 (m_u3 u 33 0 r kd) 34 0 r (nI a)) 35 0 r to) 36 0 r og) 37 0 r tg) 38 0 r pn) 39 0 (ix (nI r)) 0, c))) rfl (ib_nI (j := r) (len := 25) (by omega) (by omega)) ?_
    rw [ix_nI (j := r) (by omega)]
    refine G_steps 2 (S1 := (if nI f < 0 then 120 else 113, [some (Sum.inr (Sum.inl (20, 0))), some (Sum.inl kd), some (Sum.inl (nI a)), some (Sum.inl to), some (Sum.inl og), some (Sum.inl tg), some (Sum.inl pn), some (Sum.inl (nI f)), some (Sum.inl (nI g))], [], (v, m_u3 (m_u3 (m_u3 (m_u3 (m_u3 (m_u3 (m_u3 u 33 0 r kd) 34 0 r (nI a)) 35 0 r to) 36 0 r og) 37 0 r tg) 38 0 r pn) 39 0 r 0, c))) rfl rfl ?_
    refine G_iF (nI_pos (by omega)) ?_
    refine G_steps 3 (S1 := (117, [some (Sum.inr (Sum.inl (20, 0))), some (Sum.inl kd), some (Sum.inl (nI a)), some (Sum.inl to), some (Sum.inl og), some (Sum.inl tg), some (Sum.inl pn), some (Sum.inl (nI f)), some (Sum.inl (nI g))], [Sum.inl (nI f), Sum.inl (nI a), Sum.inr (Sum.inl (20, 0))], (v, m_u3 (m_u3 (m_u3 (m_u3 (m_u3 (m_u3 (m_u3 u 33 0 r kd) 34 0 r (nI a)) 35 0 r to) 36 0 r og) 37 0 r tg) 38 0 r pn) 39 0 r 0, c))) rfl rfl ?_
    refine G_call (y := none) (M1 := (v, d_car (m_u3 (m_u3 (m_u3 (m_u3 (m_u3 (m_u3 (m_u3 u 33 0 r kd) 34 0 r (nI a)) 35 0 r to) 36 0 r og) 37 0 r tg) 38 0 r pn) 39 0 r 0) a f r 0, c)) rfl rfl (e_m_carry (cnt := 0) _ hn ha (dlo_lt n f hp) hr (by omega) u3_s (by omega)) ?_
    refine G_is (S' := (120, [some (Sum.inr (Sum.inl (20, 0))), some (Sum.inl kd), some (Sum.inl (nI a)), some (Sum.inl to), some (Sum.inl og), some (Sum.inl tg), some (Sum.inl pn), some (Sum.inl (nI f)), some (Sum.inl (nI g))], [], (v, d_car (m_u3 (m_u3 (m_u3 (m_u3 (m_u3 (m_u3 (m_u3 u 33 0 r kd) 34 0 r (nI a)) 35 0 r to) 36 0 r og) 37 0 r tg) 38 0 r pn) 39 0 r 0) a f r 0, c))) rfl ?_
    refine G_steps 2 (S1 := (if nI g < 0 then 132 else 125, [some (Sum.inr (Sum.inl (20, 0))), some (Sum.inl kd), some (Sum.inl (nI a)), some (Sum.inl to), some (Sum.inl og), some (Sum.inl tg), some (Sum.inl pn), some (Sum.inl (nI f)), some (Sum.inl (nI g))], [], (v, d_car (m_u3 (m_u3 (m_u3 (m_u3 (m_u3 (m_u3 (m_u3 u 33 0 r kd) 34 0 r (nI a)) 35 0 r to) 36 0 r og) 37 0 r tg) 38 0 r pn) 39 0 r 0) a f r 0, c))) rfl rfl ?_
    refine G_iF (nI_pos (by omega)) ?_
    refine G_steps 3 (S1 := (129, [some (Sum.inr (Sum.inl (20, 0))), some (Sum.inl kd), some (Sum.inl (nI a)), some (Sum.inl to), some (Sum.inl og), some (Sum.inl tg), some (Sum.inl pn), some (Sum.inl (nI f)), some (Sum.inl (nI g))], [Sum.inl (nI g), Sum.inl (nI a), Sum.inr (Sum.inl (20, 0))], (v, d_car (m_u3 (m_u3 (m_u3 (m_u3 (m_u3 (m_u3 (m_u3 u 33 0 r kd) 34 0 r (nI a)) 35 0 r to) 36 0 r og) 37 0 r tg) 38 0 r pn) 39 0 r 0) a f r 0, c))) rfl rfl ?_
    refine G_call (y := none) (M1 := (v, d_car (d_car (m_u3 (m_u3 (m_u3 (m_u3 (m_u3 (m_u3 (m_u3 u 33 0 r kd) 34 0 r (nI a)) 35 0 r to) 36 0 r og) 37 0 r tg) 38 0 r pn) 39 0 r 0) a f r 0) a g r 1, c)) rfl rfl (e_m_carry (cnt := 1) _ hn ha (dlo_lt n g hp2) ((congrFun (congrFun (car_k rfl) 0) 13).trans hr) (by omega) u3_s (by omega)) ?_
    refine G_is (S' := (132, [some (Sum.inr (Sum.inl (20, 0))), some (Sum.inl kd), some (Sum.inl (nI a)), some (Sum.inl to), some (Sum.inl og), some (Sum.inl tg), some (Sum.inl pn), some (Sum.inl (nI f)), some (Sum.inl (nI g))], [], (v, d_car (d_car (m_u3 (m_u3 (m_u3 (m_u3 (m_u3 (m_u3 (m_u3 u 33 0 r kd) 34 0 r (nI a)) 35 0 r to) 36 0 r og) 37 0 r tg) 38 0 r pn) 39 0 r 0) a f r 0) a g r 1, c))) rfl ?_
    refine G_steps 3 (S1 := (137, [some (Sum.inr (Sum.inl (20, 0))), some (Sum.inl kd), some (Sum.inl (nI a)), some (Sum.inl to), some (Sum.inl og), some (Sum.inl tg), some (Sum.inl pn), some (Sum.inl (nI f)), some (Sum.inl (nI g))], [Sum.inl ((d_car (d_car (m_u3 (m_u3 (m_u3 (m_u3 (m_u3 (m_u3 (m_u3 u 33 0 r kd) 34 0 r (nI a)) 35 0 r to) 36 0 r og) 37 0 r tg) 38 0 r pn) 39 0 r 0) a f r 0) a g r 1) 20 0 13), Sum.inr (Sum.inl (20, 0))], (v, d_car (d_car (m_u3 (m_u3 (m_u3 (m_u3 (m_u3 (m_u3 (m_u3 u 33 0 r kd) 34 0 r (nI a)) 35 0 r to) 36 0 r og) 37 0 r tg) 38 0 r pn) 39 0 r 0) a f r 0) a g r 1, c))) rfl rfl ?_
    refine G_top ((congrFun (congrFun ((car_k (k := 20) rfl).trans (car_k (k := 20) rfl)) 0) 13).trans hr) ?_
    refine G_steps 2 (S1 := (139, [some (Sum.inr (Sum.inl (20, 0))), some (Sum.inl kd), some (Sum.inl (nI a)), some (Sum.inl to), some (Sum.inl og), some (Sum.inl tg), some (Sum.inl pn), some (Sum.inl (nI f)), some (Sum.inl (nI g))], [Sum.inl ((nI r) + 1), Sum.inr (Sum.inl (20, 0))], (v, d_car (d_car (m_u3 (m_u3 (m_u3 (m_u3 (m_u3 (m_u3 (m_u3 u 33 0 r kd) 34 0 r (nI a)) 35 0 r to) 36 0 r og) 37 0 r tg) 38 0 r pn) 39 0 r 0) a f r 0) a g r 1, c))) rfl rfl ?_
    refine G_top ((nI_succ r).symm) ?_
    refine G_steps 4 (S1 := (146, [some (Sum.inr (Sum.inl (20, 0))), some (Sum.inl kd), some (Sum.inl (nI a)), some (Sum.inl to), some (Sum.inl og), some (Sum.inl tg), some (Sum.inl pn), some (Sum.inl (nI f)), some (Sum.inl (nI g))], [Sum.inl (nI f), Sum.inl (nI a), Sum.inr (Sum.inl (20, 0))], (v, m_u3 (d_car (d_car (m_u3 (m_u3 (m_u3 (m_u3 (m_u3 (m_u3 (m_u3 u 33 0 r kd) 34 0 r (nI a)) 35 0 r to) 36 0 r og) 37 0 r tg) 38 0 r pn) 39 0 r 0) a f r 0) a g r 1) 20 0 13 (nI (r + 1)), c))) rfl rfl ?_
    refine G_call (y := none) (M1 := (v, d_sp (m_u3 (d_car (d_car (m_u3 (m_u3 (m_u3 (m_u3 (m_u3 (m_u3 (m_u3 u 33 0 r kd) 34 0 r (nI a)) 35 0 r to) 36 0 r og) 37 0 r tg) 38 0 r pn) 39 0 r 0) a f r 0) a g r 1) 20 0 13 (nI (r + 1))) a (some f), c)) rfl rfl (e_m_spend1 _ hn ha (dlo_lt n f hp)) ?_
    refine G_is (S' := (149, [some (Sum.inr (Sum.inl (20, 0))), some (Sum.inl kd), some (Sum.inl (nI a)), some (Sum.inl to), some (Sum.inl og), some (Sum.inl tg), some (Sum.inl pn), some (Sum.inl (nI f)), some (Sum.inl (nI g))], [], (v, d_sp (m_u3 (d_car (d_car (m_u3 (m_u3 (m_u3 (m_u3 (m_u3 (m_u3 (m_u3 u 33 0 r kd) 34 0 r (nI a)) 35 0 r to) 36 0 r og) 37 0 r tg) 38 0 r pn) 39 0 r 0) a f r 0) a g r 1) 20 0 13 (nI (r + 1))) a (some f), c))) rfl ?_
    refine G_steps 3 (S1 := (153, [some (Sum.inr (Sum.inl (20, 0))), some (Sum.inl kd), some (Sum.inl (nI a)), some (Sum.inl to), some (Sum.inl og), some (Sum.inl tg), some (Sum.inl pn), some (Sum.inl (nI f)), some (Sum.inl (nI g))], [Sum.inl (nI g), Sum.inl (nI a), Sum.inr (Sum.inl (20, 0))], (v, d_sp (m_u3 (d_car (d_car (m_u3 (m_u3 (m_u3 (m_u3 (m_u3 (m_u3 (m_u3 u 33 0 r kd) 34 0 r (nI a)) 35 0 r to) 36 0 r og) 37 0 r tg) 38 0 r pn) 39 0 r 0) a f r 0) a g r 1) 20 0 13 (nI (r + 1))) a (some f), c))) rfl rfl ?_
    refine G_call (y := none) (M1 := (v, d_sp (d_sp (m_u3 (d_car (d_car (m_u3 (m_u3 (m_u3 (m_u3 (m_u3 (m_u3 (m_u3 u 33 0 r kd) 34 0 r (nI a)) 35 0 r to) 36 0 r og) 37 0 r tg) 38 0 r pn) 39 0 r 0) a f r 0) a g r 1) 20 0 13 (nI (r + 1))) a (some f)) a (some g), c)) rfl rfl (e_m_spend1 _ hn ha (dlo_lt n g hp2)) ?_
    refine G_is (S' := (156, [some (Sum.inr (Sum.inl (20, 0))), some (Sum.inl kd), some (Sum.inl (nI a)), some (Sum.inl to), some (Sum.inl og), some (Sum.inl tg), some (Sum.inl pn), some (Sum.inl (nI f)), some (Sum.inl (nI g))], [], (v, d_sp (d_sp (m_u3 (d_car (d_car (m_u3 (m_u3 (m_u3 (m_u3 (m_u3 (m_u3 (m_u3 u 33 0 r kd) 34 0 r (nI a)) 35 0 r to) 36 0 r og) 37 0 r tg) 38 0 r pn) 39 0 r 0) a f r 0) a g r 1) 20 0 13 (nI (r + 1))) a (some f)) a (some g), c))) rfl ?_
    exact G_fin rfl rfl (M_2 (by simp only [d_send, d_two, d_c2, d_f7, hp, hp2, if_neg h1]; try rfl))
theorem e_m_send (d : Nat) {n L : Nat} {xs : Nat → Int32} {v u : mV} {c : Nat} {a r : Nat} {kd to og tg pn : Int32} (hn : n ≤ 6) (hf : F_m n u) (ha : a < n) (hr : u 20 0 13 = nI r) (hr2 : r ≤ 24) : E_v false n L xs (d + 2) 57 [Sum.inr (Sum.inl (20, 0)), Sum.inl kd, Sum.inl (nI a), Sum.inl to, Sum.inl og, Sum.inl tg, Sum.inl pn] (v, u, c) none (v, d_send n u a kd to og tg pn r, c) := by
  cases hp : d_lo u a (-1) n with
  | none => exact e_m_send0 d hn hf ha hr hr2 hp
  | some f =>
    cases hp2 : d_lo u a (nI f) n with
    | none => exact e_m_send1 d hn hf ha hr hr2 hp hp2 (dlo_lt n f hp)
    | some g => exact e_m_send2 d hn hf ha hr hr2 hp hp2 (dlo_lt n f hp) (dlo_lt n g hp2)
set_option maxRecDepth 100000 in
theorem e_m_copy (d : Nat) {n L : Nat} {xs : Nat → Int32} {v u : mV} {c : Nat} {k t : Nat} (hk : k < 25) (ht : t < 25) : E_v false n L xs (d + 1) 53 [Sum.inr (Sum.inl (20, 0)), Sum.inl (nI k), Sum.inl (nI t)] (v, u, c) none (v, d_cp u k t, c) := by
  refine E_mk mc_53 (by decide) ?_
  refine G_steps 6 (S1 := (10, [some (Sum.inr (Sum.inl (20, 0))), some (Sum.inl (nI k)), some (Sum.inl (nI t)), none], [Sum.inl (nI k), Sum.inr (Sum.inl (33, 0)), Sum.inl (nI t), Sum.inr (Sum.inl (33, 0))], (v, u, c))) rfl rfl ?_
  refine G_step (S1 := (11, [some (Sum.inr (Sum.inl (20, 0))), some (Sum.inl (nI k)), some (Sum.inl (nI t)), none], [Sum.inl (u 33 0 (ix (nI k))), Sum.inl (nI t), Sum.inr (Sum.inl (33, 0))], (v, u, c))) rfl (ib_nI (j := k) (len := 25) (by omega) (by omega)) ?_
  rw [ix_nI (j := k) (by omega)]
  refine G_step (S1 := (12, [some (Sum.inr (Sum.inl (20, 0))), some (Sum.inl (nI k)), some (Sum.inl (nI t)), none], [], (v, m_u3 u 33 0 (ix (nI t)) (u 33 0 k), c))) rfl (ib_nI (j := t) (len := 25) (by omega) (by omega)) ?_
  rw [ix_nI (j := t) (by omega)]
  refine G_steps 6 (S1 := (22, [some (Sum.inr (Sum.inl (20, 0))), some (Sum.inl (nI k)), some (Sum.inl (nI t)), none], [Sum.inl (nI k), Sum.inr (Sum.inl (34, 0)), Sum.inl (nI t), Sum.inr (Sum.inl (34, 0))], (v, m_u3 u 33 0 t (u 33 0 k), c))) rfl rfl ?_
  refine G_step (S1 := (23, [some (Sum.inr (Sum.inl (20, 0))), some (Sum.inl (nI k)), some (Sum.inl (nI t)), none], [Sum.inl (u 34 0 (ix (nI k))), Sum.inl (nI t), Sum.inr (Sum.inl (34, 0))], (v, m_u3 u 33 0 t (u 33 0 k), c))) rfl (ib_nI (j := k) (len := 25) (by omega) (by omega)) ?_
  rw [ix_nI (j := k) (by omega)]
  refine G_step (S1 := (24, [some (Sum.inr (Sum.inl (20, 0))), some (Sum.inl (nI k)), some (Sum.inl (nI t)), none], [], (v, m_u3 (m_u3 u 33 0 t (u 33 0 k)) 34 0 (ix (nI t)) (u 34 0 k), c))) rfl (ib_nI (j := t) (len := 25) (by omega) (by omega)) ?_
  rw [ix_nI (j := t) (by omega)]
  refine G_steps 6 (S1 := (34, [some (Sum.inr (Sum.inl (20, 0))), some (Sum.inl (nI k)), some (Sum.inl (nI t)), none], [Sum.inl (nI k), Sum.inr (Sum.inl (35, 0)), Sum.inl (nI t), Sum.inr (Sum.inl (35, 0))], (v, m_u3 (m_u3 u 33 0 t (u 33 0 k)) 34 0 t (u 34 0 k), c))) rfl rfl ?_
  refine G_step (S1 := (35, [some (Sum.inr (Sum.inl (20, 0))), some (Sum.inl (nI k)), some (Sum.inl (nI t)), none], [Sum.inl (u 35 0 (ix (nI k))), Sum.inl (nI t), Sum.inr (Sum.inl (35, 0))], (v, m_u3 (m_u3 u 33 0 t (u 33 0 k)) 34 0 t (u 34 0 k), c))) rfl (ib_nI (j := k) (len := 25) (by omega) (by omega)) ?_
  rw [ix_nI (j := k) (by omega)]
  refine G_step (S1 := (36, [some (Sum.inr (Sum.inl (20, 0))), some (Sum.inl (nI k)), some (Sum.inl (nI t)), none], [], (v, m_u3 (m_u3 (m_u3 u 33 0 t (u 33 0 k)) 34 0 t (u 34 0 k)) 35 0 (ix (nI t)) (u 35 0 k), c))) rfl (ib_nI (j := t) (len := 25) (by omega) (by omega)) ?_
  rw [ix_nI (j := t) (by omega)]
  refine G_steps 6 (S1 := (46, [some (Sum.inr (Sum.inl (20, 0))), some (Sum.inl (nI k)), some (Sum.inl (nI t)), none], [Sum.inl (nI k), Sum.inr (Sum.inl (36, 0)), Sum.inl (nI t), Sum.inr (Sum.inl (36, 0))], (v, m_u3 (m_u3 (m_u3 u 33 0 t (u 33 0 k)) 34 0 t (u 34 0 k)) 35 0 t (u 35 0 k), c))) rfl rfl ?_
  refine G_step (S1 := (47, [some (Sum.inr (Sum.inl (20, 0))), some (Sum.inl (nI k)), some (Sum.inl (nI t)), none], [Sum.inl (u 36 0 (ix (nI k))), Sum.inl (nI t), Sum.inr (Sum.inl (36, 0))], (v, m_u3 (m_u3 (m_u3 u 33 0 t (u 33 0 k)) 34 0 t (u 34 0 k)) 35 0 t (u 35 0 k), c))) rfl (ib_nI (j := k) (len := 25) (by omega) (by omega)) ?_
  rw [ix_nI (j := k) (by omega)]
  refine G_step (S1 := (48, [some (Sum.inr (Sum.inl (20, 0))), some (Sum.inl (nI k)), some (Sum.inl (nI t)), none], [], (v, m_u3 (m_u3 (m_u3 (m_u3 u 33 0 t (u 33 0 k)) 34 0 t (u 34 0 k)) 35 0 t (u 35 0 k)) 36 0 (ix (nI t)) (u 36 0 k), c))) rfl (ib_nI (j := t) (len := 25) (by omega) (by omega)) ?_
  rw [ix_nI (j := t) (by omega)]
  refine G_steps 6 (S1 := (58, [some (Sum.inr (Sum.inl (20, 0))), some (Sum.inl (nI k)), some (Sum.inl (nI t)), none], [Sum.inl (nI k), Sum.inr (Sum.inl (37, 0)), Sum.inl (nI t), Sum.inr (Sum.inl (37, 0))], (v, m_u3 (m_u3 (m_u3 (m_u3 u 33 0 t (u 33 0 k)) 34 0 t (u 34 0 k)) 35 0 t (u 35 0 k)) 36 0 t (u 36 0 k), c))) rfl rfl ?_
  refine G_step (S1 := (59, [some (Sum.inr (Sum.inl (20, 0))), some (Sum.inl (nI k)), some (Sum.inl (nI t)), none], [Sum.inl (u 37 0 (ix (nI k))), Sum.inl (nI t), Sum.inr (Sum.inl (37, 0))], (v, m_u3 (m_u3 (m_u3 (m_u3 u 33 0 t (u 33 0 k)) 34 0 t (u 34 0 k)) 35 0 t (u 35 0 k)) 36 0 t (u 36 0 k), c))) rfl (ib_nI (j := k) (len := 25) (by omega) (by omega)) ?_
  rw [ix_nI (j := k) (by omega)]
  refine G_step (S1 := (60, [some (Sum.inr (Sum.inl (20, 0))), some (Sum.inl (nI k)), some (Sum.inl (nI t)), none], [], (v, m_u3 (m_u3 (m_u3 (m_u3 (m_u3 u 33 0 t (u 33 0 k)) 34 0 t (u 34 0 k)) 35 0 t (u 35 0 k)) 36 0 t (u 36 0 k)) 37 0 (ix (nI t)) (u 37 0 k), c))) rfl (ib_nI (j := t) (len := 25) (by omega) (by omega)) ?_
  rw [ix_nI (j := t) (by omega)]
  refine G_steps 6 (S1 := (70, [some (Sum.inr (Sum.inl (20, 0))), some (Sum.inl (nI k)), some (Sum.inl (nI t)), none], [Sum.inl (nI k), Sum.inr (Sum.inl (38, 0)), Sum.inl (nI t), Sum.inr (Sum.inl (38, 0))], (v, m_u3 (m_u3 (m_u3 (m_u3 (m_u3 u 33 0 t (u 33 0 k)) 34 0 t (u 34 0 k)) 35 0 t (u 35 0 k)) 36 0 t (u 36 0 k)) 37 0 t (u 37 0 k), c))) rfl rfl ?_
  refine G_step (S1 := (71, [some (Sum.inr (Sum.inl (20, 0))), some (Sum.inl (nI k)), some (Sum.inl (nI t)), none], [Sum.inl (u 38 0 (ix (nI k))), Sum.inl (nI t), Sum.inr (Sum.inl (38, 0))], (v, m_u3 (m_u3 (m_u3 (m_u3 (m_u3 u 33 0 t (u 33 0 k)) 34 0 t (u 34 0 k)) 35 0 t (u 35 0 k)) 36 0 t (u 36 0 k)) 37 0 t (u 37 0 k), c))) rfl (ib_nI (j := k) (len := 25) (by omega) (by omega)) ?_
  rw [ix_nI (j := k) (by omega)]
  refine G_step (S1 := (72, [some (Sum.inr (Sum.inl (20, 0))), some (Sum.inl (nI k)), some (Sum.inl (nI t)), none], [], (v, m_u3 (m_u3 (m_u3 (m_u3 (m_u3 (m_u3 u 33 0 t (u 33 0 k)) 34 0 t (u 34 0 k)) 35 0 t (u 35 0 k)) 36 0 t (u 36 0 k)) 37 0 t (u 37 0 k)) 38 0 (ix (nI t)) (u 38 0 k), c))) rfl (ib_nI (j := t) (len := 25) (by omega) (by omega)) ?_
  rw [ix_nI (j := t) (by omega)]
  refine G_steps 6 (S1 := (82, [some (Sum.inr (Sum.inl (20, 0))), some (Sum.inl (nI k)), some (Sum.inl (nI t)), none], [Sum.inl (nI k), Sum.inr (Sum.inl (39, 0)), Sum.inl (nI t), Sum.inr (Sum.inl (39, 0))], (v, m_u3 (m_u3 (m_u3 (m_u3 (m_u3 (m_u3 u 33 0 t (u 33 0 k)) 34 0 t (u 34 0 k)) 35 0 t (u 35 0 k)) 36 0 t (u 36 0 k)) 37 0 t (u 37 0 k)) 38 0 t (u 38 0 k), c))) rfl rfl ?_
  refine G_step (S1 := (83, [some (Sum.inr (Sum.inl (20, 0))), some (Sum.inl (nI k)), some (Sum.inl (nI t)), none], [Sum.inl (u 39 0 (ix (nI k))), Sum.inl (nI t), Sum.inr (Sum.inl (39, 0))], (v, m_u3 (m_u3 (m_u3 (m_u3 (m_u3 (m_u3 u 33 0 t (u 33 0 k)) 34 0 t (u 34 0 k)) 35 0 t (u 35 0 k)) 36 0 t (u 36 0 k)) 37 0 t (u 37 0 k)) 38 0 t (u 38 0 k), c))) rfl (ib_nI (j := k) (len := 25) (by omega) (by omega)) ?_
  rw [ix_nI (j := k) (by omega)]
  refine G_step (S1 := (84, [some (Sum.inr (Sum.inl (20, 0))), some (Sum.inl (nI k)), some (Sum.inl (nI t)), none], [], (v, m_u3 (m_u3 (m_u3 (m_u3 (m_u3 (m_u3 (m_u3 u 33 0 t (u 33 0 k)) 34 0 t (u 34 0 k)) 35 0 t (u 35 0 k)) 36 0 t (u 36 0 k)) 37 0 t (u 37 0 k)) 38 0 t (u 38 0 k)) 39 0 (ix (nI t)) (u 39 0 k), c))) rfl (ib_nI (j := t) (len := 25) (by omega) (by omega)) ?_
  rw [ix_nI (j := t) (by omega)]
  refine G_steps 2 (S1 := (86, [some (Sum.inr (Sum.inl (20, 0))), some (Sum.inl (nI k)), some (Sum.inl (nI t)), some (Sum.inl 0)], [], (v, m_u3 (m_u3 (m_u3 (m_u3 (m_u3 (m_u3 (m_u3 u 33 0 t (u 33 0 k)) 34 0 t (u 34 0 k)) 35 0 t (u 35 0 k)) 36 0 t (u 36 0 k)) 37 0 t (u 37 0 k)) 38 0 t (u 38 0 k)) 39 0 t (u 39 0 k), c))) rfl rfl ?_
  refine G_is (S' := (86, [some (Sum.inr (Sum.inl (20, 0))), some (Sum.inl (nI k)), some (Sum.inl (nI t)), some (Sum.inl (nI 0))], [], (v, d_cn (m_u3 (m_u3 (m_u3 (m_u3 (m_u3 (m_u3 (m_u3 u 33 0 t (u 33 0 k)) 34 0 t (u 34 0 k)) 35 0 t (u 35 0 k)) 36 0 t (u 36 0 k)) 37 0 t (u 37 0 k)) 38 0 t (u 38 0 k)) 39 0 t (u 39 0 k)) k t 0, c))) rfl ?_
  refine G_loop (S := fun j => (86, [some (Sum.inr (Sum.inl (20, 0))), some (Sum.inl (nI k)), some (Sum.inl (nI t)), some (Sum.inl (nI j))], [], (v, d_cn (m_u3 (m_u3 (m_u3 (m_u3 (m_u3 (m_u3 (m_u3 u 33 0 t (u 33 0 k)) 34 0 t (u 34 0 k)) 35 0 t (u 35 0 k)) 36 0 t (u 36 0 k)) 37 0 t (u 37 0 k)) 38 0 t (u 38 0 k)) 39 0 t (u 39 0 k)) k t j, c))) (N := 2) (fun j hj K => ?_) ?_
  · skip
    refine G_steps 3 (S1 := (if 2 ≤ nI j then 157 else 91, [some (Sum.inr (Sum.inl (20, 0))), some (Sum.inl (nI k)), some (Sum.inl (nI t)), some (Sum.inl (nI j))], [], (v, d_cn (m_u3 (m_u3 (m_u3 (m_u3 (m_u3 (m_u3 (m_u3 u 33 0 t (u 33 0 k)) 34 0 t (u 34 0 k)) 35 0 t (u 35 0 k)) 36 0 t (u 36 0 k)) 37 0 t (u 37 0 k)) 38 0 t (u 38 0 k)) 39 0 t (u 39 0 k)) k t j, c))) rfl rfl ?_
    refine G_iF (fun z => absurd ((nI_le' (a := 2) (b := j) (by omega) (by omega)).mp z) (by omega)) ?_
    refine G_steps 5 (S1 := (98, [some (Sum.inr (Sum.inl (20, 0))), some (Sum.inl (nI k)), some (Sum.inl (nI t)), some (Sum.inl (nI j))], [Sum.inl (2 * (nI t)), Sum.inr (Sum.inl (40, 0))], (v, d_cn (m_u3 (m_u3 (m_u3 (m_u3 (m_u3 (m_u3 (m_u3 u 33 0 t (u 33 0 k)) 34 0 t (u 34 0 k)) 35 0 t (u 35 0 k)) 36 0 t (u 36 0 k)) 37 0 t (u 37 0 k)) 38 0 t (u 38 0 k)) 39 0 t (u 39 0 k)) k t j, c))) rfl rfl ?_
    refine G_top (nI_mul 2 t) ?_
    refine G_steps 2 (S1 := (100, [some (Sum.inr (Sum.inl (20, 0))), some (Sum.inl (nI k)), some (Sum.inl (nI t)), some (Sum.inl (nI j))], [Sum.inl ((nI (2 * t)) + (nI j)), Sum.inr (Sum.inl (40, 0))], (v, d_cn (m_u3 (m_u3 (m_u3 (m_u3 (m_u3 (m_u3 (m_u3 u 33 0 t (u 33 0 k)) 34 0 t (u 34 0 k)) 35 0 t (u 35 0 k)) 36 0 t (u 36 0 k)) 37 0 t (u 37 0 k)) 38 0 t (u 38 0 k)) 39 0 t (u 39 0 k)) k t j, c))) rfl rfl ?_
    refine G_top (nI_ad (2 * t) j) ?_
    refine G_steps 5 (S1 := (107, [some (Sum.inr (Sum.inl (20, 0))), some (Sum.inl (nI k)), some (Sum.inl (nI t)), some (Sum.inl (nI j))], [Sum.inl (2 * (nI k)), Sum.inr (Sum.inl (40, 0)), Sum.inl (nI (2 * t + j)), Sum.inr (Sum.inl (40, 0))], (v, d_cn (m_u3 (m_u3 (m_u3 (m_u3 (m_u3 (m_u3 (m_u3 u 33 0 t (u 33 0 k)) 34 0 t (u 34 0 k)) 35 0 t (u 35 0 k)) 36 0 t (u 36 0 k)) 37 0 t (u 37 0 k)) 38 0 t (u 38 0 k)) 39 0 t (u 39 0 k)) k t j, c))) rfl rfl ?_
    refine G_top (nI_mul 2 k) ?_
    refine G_steps 2 (S1 := (109, [some (Sum.inr (Sum.inl (20, 0))), some (Sum.inl (nI k)), some (Sum.inl (nI t)), some (Sum.inl (nI j))], [Sum.inl ((nI (2 * k)) + (nI j)), Sum.inr (Sum.inl (40, 0)), Sum.inl (nI (2 * t + j)), Sum.inr (Sum.inl (40, 0))], (v, d_cn (m_u3 (m_u3 (m_u3 (m_u3 (m_u3 (m_u3 (m_u3 u 33 0 t (u 33 0 k)) 34 0 t (u 34 0 k)) 35 0 t (u 35 0 k)) 36 0 t (u 36 0 k)) 37 0 t (u 37 0 k)) 38 0 t (u 38 0 k)) 39 0 t (u 39 0 k)) k t j, c))) rfl rfl ?_
    refine G_top (nI_ad (2 * k) j) ?_
    refine G_step (S1 := (110, [some (Sum.inr (Sum.inl (20, 0))), some (Sum.inl (nI k)), some (Sum.inl (nI t)), some (Sum.inl (nI j))], [Sum.inl ((d_cn (m_u3 (m_u3 (m_u3 (m_u3 (m_u3 (m_u3 (m_u3 u 33 0 t (u 33 0 k)) 34 0 t (u 34 0 k)) 35 0 t (u 35 0 k)) 36 0 t (u 36 0 k)) 37 0 t (u 37 0 k)) 38 0 t (u 38 0 k)) 39 0 t (u 39 0 k)) k t j) 40 0 (ix (nI (2 * k + j)))), Sum.inl (nI (2 * t + j)), Sum.inr (Sum.inl (40, 0))], (v, d_cn (m_u3 (m_u3 (m_u3 (m_u3 (m_u3 (m_u3 (m_u3 u 33 0 t (u 33 0 k)) 34 0 t (u 34 0 k)) 35 0 t (u 35 0 k)) 36 0 t (u 36 0 k)) 37 0 t (u 37 0 k)) 38 0 t (u 38 0 k)) 39 0 t (u 39 0 k)) k t j, c))) rfl (ib_nI (j := (2 * k + j)) (len := 50) (by omega) (by omega)) ?_
    rw [ix_nI (j := (2 * k + j)) (by omega)]
    refine G_step (S1 := (111, [some (Sum.inr (Sum.inl (20, 0))), some (Sum.inl (nI k)), some (Sum.inl (nI t)), some (Sum.inl (nI j))], [], (v, m_u3 (d_cn (m_u3 (m_u3 (m_u3 (m_u3 (m_u3 (m_u3 (m_u3 u 33 0 t (u 33 0 k)) 34 0 t (u 34 0 k)) 35 0 t (u 35 0 k)) 36 0 t (u 36 0 k)) 37 0 t (u 37 0 k)) 38 0 t (u 38 0 k)) 39 0 t (u 39 0 k)) k t j) 40 0 (ix (nI (2 * t + j))) ((d_cn (m_u3 (m_u3 (m_u3 (m_u3 (m_u3 (m_u3 (m_u3 u 33 0 t (u 33 0 k)) 34 0 t (u 34 0 k)) 35 0 t (u 35 0 k)) 36 0 t (u 36 0 k)) 37 0 t (u 37 0 k)) 38 0 t (u 38 0 k)) 39 0 t (u 39 0 k)) k t j) 40 0 (2 * k + j)), c))) rfl (ib_nI (j := (2 * t + j)) (len := 50) (by omega) (by omega)) ?_
    rw [ix_nI (j := (2 * t + j)) (by omega)]
    refine G_steps 5 (S1 := (118, [some (Sum.inr (Sum.inl (20, 0))), some (Sum.inl (nI k)), some (Sum.inl (nI t)), some (Sum.inl (nI j))], [Sum.inl (2 * (nI t)), Sum.inr (Sum.inl (41, 0))], (v, m_u3 (d_cn (m_u3 (m_u3 (m_u3 (m_u3 (m_u3 (m_u3 (m_u3 u 33 0 t (u 33 0 k)) 34 0 t (u 34 0 k)) 35 0 t (u 35 0 k)) 36 0 t (u 36 0 k)) 37 0 t (u 37 0 k)) 38 0 t (u 38 0 k)) 39 0 t (u 39 0 k)) k t j) 40 0 (2 * t + j) ((d_cn (m_u3 (m_u3 (m_u3 (m_u3 (m_u3 (m_u3 (m_u3 u 33 0 t (u 33 0 k)) 34 0 t (u 34 0 k)) 35 0 t (u 35 0 k)) 36 0 t (u 36 0 k)) 37 0 t (u 37 0 k)) 38 0 t (u 38 0 k)) 39 0 t (u 39 0 k)) k t j) 40 0 (2 * k + j)), c))) rfl rfl ?_
    refine G_top (nI_mul 2 t) ?_
    refine G_steps 2 (S1 := (120, [some (Sum.inr (Sum.inl (20, 0))), some (Sum.inl (nI k)), some (Sum.inl (nI t)), some (Sum.inl (nI j))], [Sum.inl ((nI (2 * t)) + (nI j)), Sum.inr (Sum.inl (41, 0))], (v, m_u3 (d_cn (m_u3 (m_u3 (m_u3 (m_u3 (m_u3 (m_u3 (m_u3 u 33 0 t (u 33 0 k)) 34 0 t (u 34 0 k)) 35 0 t (u 35 0 k)) 36 0 t (u 36 0 k)) 37 0 t (u 37 0 k)) 38 0 t (u 38 0 k)) 39 0 t (u 39 0 k)) k t j) 40 0 (2 * t + j) ((d_cn (m_u3 (m_u3 (m_u3 (m_u3 (m_u3 (m_u3 (m_u3 u 33 0 t (u 33 0 k)) 34 0 t (u 34 0 k)) 35 0 t (u 35 0 k)) 36 0 t (u 36 0 k)) 37 0 t (u 37 0 k)) 38 0 t (u 38 0 k)) 39 0 t (u 39 0 k)) k t j) 40 0 (2 * k + j)), c))) rfl rfl ?_
    refine G_top (nI_ad (2 * t) j) ?_
    refine G_steps 5 (S1 := (127, [some (Sum.inr (Sum.inl (20, 0))), some (Sum.inl (nI k)), some (Sum.inl (nI t)), some (Sum.inl (nI j))], [Sum.inl (2 * (nI k)), Sum.inr (Sum.inl (41, 0)), Sum.inl (nI (2 * t + j)), Sum.inr (Sum.inl (41, 0))], (v, m_u3 (d_cn (m_u3 (m_u3 (m_u3 (m_u3 (m_u3 (m_u3 (m_u3 u 33 0 t (u 33 0 k)) 34 0 t (u 34 0 k)) 35 0 t (u 35 0 k)) 36 0 t (u 36 0 k)) 37 0 t (u 37 0 k)) 38 0 t (u 38 0 k)) 39 0 t (u 39 0 k)) k t j) 40 0 (2 * t + j) ((d_cn (m_u3 (m_u3 (m_u3 (m_u3 (m_u3 (m_u3 (m_u3 u 33 0 t (u 33 0 k)) 34 0 t (u 34 0 k)) 35 0 t (u 35 0 k)) 36 0 t (u 36 0 k)) 37 0 t (u 37 0 k)) 38 0 t (u 38 0 k)) 39 0 t (u 39 0 k)) k t j) 40 0 (2 * k + j)), c))) rfl rfl ?_
    refine G_top (nI_mul 2 k) ?_
    refine G_steps 2 (S1 := (129, [some (Sum.inr (Sum.inl (20, 0))), some (Sum.inl (nI k)), some (Sum.inl (nI t)), some (Sum.inl (nI j))], [Sum.inl ((nI (2 * k)) + (nI j)), Sum.inr (Sum.inl (41, 0)), Sum.inl (nI (2 * t + j)), Sum.inr (Sum.inl (41, 0))], (v, m_u3 (d_cn (m_u3 (m_u3 (m_u3 (m_u3 (m_u3 (m_u3 (m_u3 u 33 0 t (u 33 0 k)) 34 0 t (u 34 0 k)) 35 0 t (u 35 0 k)) 36 0 t (u 36 0 k)) 37 0 t (u 37 0 k)) 38 0 t (u 38 0 k)) 39 0 t (u 39 0 k)) k t j) 40 0 (2 * t + j) ((d_cn (m_u3 (m_u3 (m_u3 (m_u3 (m_u3 (m_u3 (m_u3 u 33 0 t (u 33 0 k)) 34 0 t (u 34 0 k)) 35 0 t (u 35 0 k)) 36 0 t (u 36 0 k)) 37 0 t (u 37 0 k)) 38 0 t (u 38 0 k)) 39 0 t (u 39 0 k)) k t j) 40 0 (2 * k + j)), c))) rfl rfl ?_
    refine G_top (nI_ad (2 * k) j) ?_
    refine G_step (S1 := (130, [some (Sum.inr (Sum.inl (20, 0))), some (Sum.inl (nI k)), some (Sum.inl (nI t)), some (Sum.inl (nI j))], [Sum.inl ((d_cn (m_u3 (m_u3 (m_u3 (m_u3 (m_u3 (m_u3 (m_u3 u 33 0 t (u 33 0 k)) 34 0 t (u 34 0 k)) 35 0 t (u 35 0 k)) 36 0 t (u 36 0 k)) 37 0 t (u 37 0 k)) 38 0 t (u 38 0 k)) 39 0 t (u 39 0 k)) k t j) 41 0 (ix (nI (2 * k + j)))), Sum.inl (nI (2 * t + j)), Sum.inr (Sum.inl (41, 0))], (v, m_u3 (d_cn (m_u3 (m_u3 (m_u3 (m_u3 (m_u3 (m_u3 (m_u3 u 33 0 t (u 33 0 k)) 34 0 t (u 34 0 k)) 35 0 t (u 35 0 k)) 36 0 t (u 36 0 k)) 37 0 t (u 37 0 k)) 38 0 t (u 38 0 k)) 39 0 t (u 39 0 k)) k t j) 40 0 (2 * t + j) ((d_cn (m_u3 (m_u3 (m_u3 (m_u3 (m_u3 (m_u3 (m_u3 u 33 0 t (u 33 0 k)) 34 0 t (u 34 0 k)) 35 0 t (u 35 0 k)) 36 0 t (u 36 0 k)) 37 0 t (u 37 0 k)) 38 0 t (u 38 0 k)) 39 0 t (u 39 0 k)) k t j) 40 0 (2 * k + j)), c))) rfl (ib_nI (j := (2 * k + j)) (len := 50) (by omega) (by omega)) ?_
    rw [ix_nI (j := (2 * k + j)) (by omega)]
    refine G_step (S1 := (131, [some (Sum.inr (Sum.inl (20, 0))), some (Sum.inl (nI k)), some (Sum.inl (nI t)), some (Sum.inl (nI j))], [], (v, m_u3 (m_u3 (d_cn (m_u3 (m_u3 (m_u3 (m_u3 (m_u3 (m_u3 (m_u3 u 33 0 t (u 33 0 k)) 34 0 t (u 34 0 k)) 35 0 t (u 35 0 k)) 36 0 t (u 36 0 k)) 37 0 t (u 37 0 k)) 38 0 t (u 38 0 k)) 39 0 t (u 39 0 k)) k t j) 40 0 (2 * t + j) ((d_cn (m_u3 (m_u3 (m_u3 (m_u3 (m_u3 (m_u3 (m_u3 u 33 0 t (u 33 0 k)) 34 0 t (u 34 0 k)) 35 0 t (u 35 0 k)) 36 0 t (u 36 0 k)) 37 0 t (u 37 0 k)) 38 0 t (u 38 0 k)) 39 0 t (u 39 0 k)) k t j) 40 0 (2 * k + j))) 41 0 (ix (nI (2 * t + j))) ((d_cn (m_u3 (m_u3 (m_u3 (m_u3 (m_u3 (m_u3 (m_u3 u 33 0 t (u 33 0 k)) 34 0 t (u 34 0 k)) 35 0 t (u 35 0 k)) 36 0 t (u 36 0 k)) 37 0 t (u 37 0 k)) 38 0 t (u 38 0 k)) 39 0 t (u 39 0 k)) k t j) 41 0 (2 * k + j)), c))) rfl (ib_nI (j := (2 * t + j)) (len := 50) (by omega) (by omega)) ?_
    rw [ix_nI (j := (2 * t + j)) (by omega)]
    refine G_steps 5 (S1 := (138, [some (Sum.inr (Sum.inl (20, 0))), some (Sum.inl (nI k)), some (Sum.inl (nI t)), some (Sum.inl (nI j))], [Sum.inl (2 * (nI t)), Sum.inr (Sum.inl (42, 0))], (v, m_u3 (m_u3 (d_cn (m_u3 (m_u3 (m_u3 (m_u3 (m_u3 (m_u3 (m_u3 u 33 0 t (u 33 0 k)) 34 0 t (u 34 0 k)) 35 0 t (u 35 0 k)) 36 0 t (u 36 0 k)) 37 0 t (u 37 0 k)) 38 0 t (u 38 0 k)) 39 0 t (u 39 0 k)) k t j) 40 0 (2 * t + j) ((d_cn (m_u3 (m_u3 (m_u3 (m_u3 (m_u3 (m_u3 (m_u3 u 33 0 t (u 33 0 k)) 34 0 t (u 34 0 k)) 35 0 t (u 35 0 k)) 36 0 t (u 36 0 k)) 37 0 t (u 37 0 k)) 38 0 t (u 38 0 k)) 39 0 t (u 39 0 k)) k t j) 40 0 (2 * k + j))) 41 0 (2 * t + j) ((d_cn (m_u3 (m_u3 (m_u3 (m_u3 (m_u3 (m_u3 (m_u3 u 33 0 t (u 33 0 k)) 34 0 t (u 34 0 k)) 35 0 t (u 35 0 k)) 36 0 t (u 36 0 k)) 37 0 t (u 37 0 k)) 38 0 t (u 38 0 k)) 39 0 t (u 39 0 k)) k t j) 41 0 (2 * k + j)), c))) rfl rfl ?_
    refine G_top (nI_mul 2 t) ?_
    refine G_steps 2 (S1 := (140, [some (Sum.inr (Sum.inl (20, 0))), some (Sum.inl (nI k)), some (Sum.inl (nI t)), some (Sum.inl (nI j))], [Sum.inl ((nI (2 * t)) + (nI j)), Sum.inr (Sum.inl (42, 0))], (v, m_u3 (m_u3 (d_cn (m_u3 (m_u3 (m_u3 (m_u3 (m_u3 (m_u3 (m_u3 u 33 0 t (u 33 0 k)) 34 0 t (u 34 0 k)) 35 0 t (u 35 0 k)) 36 0 t (u 36 0 k)) 37 0 t (u 37 0 k)) 38 0 t (u 38 0 k)) 39 0 t (u 39 0 k)) k t j) 40 0 (2 * t + j) ((d_cn (m_u3 (m_u3 (m_u3 (m_u3 (m_u3 (m_u3 (m_u3 u 33 0 t (u 33 0 k)) 34 0 t (u 34 0 k)) 35 0 t (u 35 0 k)) 36 0 t (u 36 0 k)) 37 0 t (u 37 0 k)) 38 0 t (u 38 0 k)) 39 0 t (u 39 0 k)) k t j) 40 0 (2 * k + j))) 41 0 (2 * t + j) ((d_cn (m_u3 (m_u3 (m_u3 (m_u3 (m_u3 (m_u3 (m_u3 u 33 0 t (u 33 0 k)) 34 0 t (u 34 0 k)) 35 0 t (u 35 0 k)) 36 0 t (u 36 0 k)) 37 0 t (u 37 0 k)) 38 0 t (u 38 0 k)) 39 0 t (u 39 0 k)) k t j) 41 0 (2 * k + j)), c))) rfl rfl ?_
    refine G_top (nI_ad (2 * t) j) ?_
    refine G_steps 5 (S1 := (147, [some (Sum.inr (Sum.inl (20, 0))), some (Sum.inl (nI k)), some (Sum.inl (nI t)), some (Sum.inl (nI j))], [Sum.inl (2 * (nI k)), Sum.inr (Sum.inl (42, 0)), Sum.inl (nI (2 * t + j)), Sum.inr (Sum.inl (42, 0))], (v, m_u3 (m_u3 (d_cn (m_u3 (m_u3 (m_u3 (m_u3 (m_u3 (m_u3 (m_u3 u 33 0 t (u 33 0 k)) 34 0 t (u 34 0 k)) 35 0 t (u 35 0 k)) 36 0 t (u 36 0 k)) 37 0 t (u 37 0 k)) 38 0 t (u 38 0 k)) 39 0 t (u 39 0 k)) k t j) 40 0 (2 * t + j) ((d_cn (m_u3 (m_u3 (m_u3 (m_u3 (m_u3 (m_u3 (m_u3 u 33 0 t (u 33 0 k)) 34 0 t (u 34 0 k)) 35 0 t (u 35 0 k)) 36 0 t (u 36 0 k)) 37 0 t (u 37 0 k)) 38 0 t (u 38 0 k)) 39 0 t (u 39 0 k)) k t j) 40 0 (2 * k + j))) 41 0 (2 * t + j) ((d_cn (m_u3 (m_u3 (m_u3 (m_u3 (m_u3 (m_u3 (m_u3 u 33 0 t (u 33 0 k)) 34 0 t (u 34 0 k)) 35 0 t (u 35 0 k)) 36 0 t (u 36 0 k)) 37 0 t (u 37 0 k)) 38 0 t (u 38 0 k)) 39 0 t (u 39 0 k)) k t j) 41 0 (2 * k + j)), c))) rfl rfl ?_
    refine G_top (nI_mul 2 k) ?_
    refine G_steps 2 (S1 := (149, [some (Sum.inr (Sum.inl (20, 0))), some (Sum.inl (nI k)), some (Sum.inl (nI t)), some (Sum.inl (nI j))], [Sum.inl ((nI (2 * k)) + (nI j)), Sum.inr (Sum.inl (42, 0)), Sum.inl (nI (2 * t + j)), Sum.inr (Sum.inl (42, 0))], (v, m_u3 (m_u3 (d_cn (m_u3 (m_u3 (m_u3 (m_u3 (m_u3 (m_u3 (m_u3 u 33 0 t (u 33 0 k)) 34 0 t (u 34 0 k)) 35 0 t (u 35 0 k)) 36 0 t (u 36 0 k)) 37 0 t (u 37 0 k)) 38 0 t (u 38 0 k)) 39 0 t (u 39 0 k)) k t j) 40 0 (2 * t + j) ((d_cn (m_u3 (m_u3 (m_u3 (m_u3 (m_u3 (m_u3 (m_u3 u 33 0 t (u 33 0 k)) 34 0 t (u 34 0 k)) 35 0 t (u 35 0 k)) 36 0 t (u 36 0 k)) 37 0 t (u 37 0 k)) 38 0 t (u 38 0 k)) 39 0 t (u 39 0 k)) k t j) 40 0 (2 * k + j))) 41 0 (2 * t + j) ((d_cn (m_u3 (m_u3 (m_u3 (m_u3 (m_u3 (m_u3 (m_u3 u 33 0 t (u 33 0 k)) 34 0 t (u 34 0 k)) 35 0 t (u 35 0 k)) 36 0 t (u 36 0 k)) 37 0 t (u 37 0 k)) 38 0 t (u 38 0 k)) 39 0 t (u 39 0 k)) k t j) 41 0 (2 * k + j)), c))) rfl rfl ?_
    refine G_top (nI_ad (2 * k) j) ?_
    refine G_step (S1 := (150, [some (Sum.inr (Sum.inl (20, 0))), some (Sum.inl (nI k)), some (Sum.inl (nI t)), some (Sum.inl (nI j))], [Sum.inl ((d_cn (m_u3 (m_u3 (m_u3 (m_u3 (m_u3 (m_u3 (m_u3 u 33 0 t (u 33 0 k)) 34 0 t (u 34 0 k)) 35 0 t (u 35 0 k)) 36 0 t (u 36 0 k)) 37 0 t (u 37 0 k)) 38 0 t (u 38 0 k)) 39 0 t (u 39 0 k)) k t j) 42 0 (ix (nI (2 * k + j)))), Sum.inl (nI (2 * t + j)), Sum.inr (Sum.inl (42, 0))], (v, m_u3 (m_u3 (d_cn (m_u3 (m_u3 (m_u3 (m_u3 (m_u3 (m_u3 (m_u3 u 33 0 t (u 33 0 k)) 34 0 t (u 34 0 k)) 35 0 t (u 35 0 k)) 36 0 t (u 36 0 k)) 37 0 t (u 37 0 k)) 38 0 t (u 38 0 k)) 39 0 t (u 39 0 k)) k t j) 40 0 (2 * t + j) ((d_cn (m_u3 (m_u3 (m_u3 (m_u3 (m_u3 (m_u3 (m_u3 u 33 0 t (u 33 0 k)) 34 0 t (u 34 0 k)) 35 0 t (u 35 0 k)) 36 0 t (u 36 0 k)) 37 0 t (u 37 0 k)) 38 0 t (u 38 0 k)) 39 0 t (u 39 0 k)) k t j) 40 0 (2 * k + j))) 41 0 (2 * t + j) ((d_cn (m_u3 (m_u3 (m_u3 (m_u3 (m_u3 (m_u3 (m_u3 u 33 0 t (u 33 0 k)) 34 0 t (u 34 0 k)) 35 0 t (u 35 0 k)) 36 0 t (u 36 0 k)) 37 0 t (u 37 0 k)) 38 0 t (u 38 0 k)) 39 0 t (u 39 0 k)) k t j) 41 0 (2 * k + j)), c))) rfl (ib_nI (j := (2 * k + j)) (len := 50) (by omega) (by omega)) ?_
    rw [ix_nI (j := (2 * k + j)) (by omega)]
    refine G_step (S1 := (151, [some (Sum.inr (Sum.inl (20, 0))), some (Sum.inl (nI k)), some (Sum.inl (nI t)), some (Sum.inl (nI j))], [], (v, m_u3 (m_u3 (m_u3 (d_cn (m_u3 (m_u3 (m_u3 (m_u3 (m_u3 (m_u3 (m_u3 u 33 0 t (u 33 0 k)) 34 0 t (u 34 0 k)) 35 0 t (u 35 0 k)) 36 0 t (u 36 0 k)) 37 0 t (u 37 0 k)) 38 0 t (u 38 0 k)) 39 0 t (u 39 0 k)) k t j) 40 0 (2 * t + j) ((d_cn (m_u3 (m_u3 (m_u3 (m_u3 (m_u3 (m_u3 (m_u3 u 33 0 t (u 33 0 k)) 34 0 t (u 34 0 k)) 35 0 t (u 35 0 k)) 36 0 t (u 36 0 k)) 37 0 t (u 37 0 k)) 38 0 t (u 38 0 k)) 39 0 t (u 39 0 k)) k t j) 40 0 (2 * k + j))) 41 0 (2 * t + j) ((d_cn (m_u3 (m_u3 (m_u3 (m_u3 (m_u3 (m_u3 (m_u3 u 33 0 t (u 33 0 k)) 34 0 t (u 34 0 k)) 35 0 t (u 35 0 k)) 36 0 t (u 36 0 k)) 37 0 t (u 37 0 k)) 38 0 t (u 38 0 k)) 39 0 t (u 39 0 k)) k t j) 41 0 (2 * k + j))) 42 0 (ix (nI (2 * t + j))) ((d_cn (m_u3 (m_u3 (m_u3 (m_u3 (m_u3 (m_u3 (m_u3 u 33 0 t (u 33 0 k)) 34 0 t (u 34 0 k)) 35 0 t (u 35 0 k)) 36 0 t (u 36 0 k)) 37 0 t (u 37 0 k)) 38 0 t (u 38 0 k)) 39 0 t (u 39 0 k)) k t j) 42 0 (2 * k + j)), c))) rfl (ib_nI (j := (2 * t + j)) (len := 50) (by omega) (by omega)) ?_
    rw [ix_nI (j := (2 * t + j)) (by omega)]
    refine G_steps 2 (S1 := (86, [some (Sum.inr (Sum.inl (20, 0))), some (Sum.inl (nI k)), some (Sum.inl (nI t)), some (Sum.inl ((nI j) + 1))], [], (v, m_u3 (m_u3 (m_u3 (d_cn (m_u3 (m_u3 (m_u3 (m_u3 (m_u3 (m_u3 (m_u3 u 33 0 t (u 33 0 k)) 34 0 t (u 34 0 k)) 35 0 t (u 35 0 k)) 36 0 t (u 36 0 k)) 37 0 t (u 37 0 k)) 38 0 t (u 38 0 k)) 39 0 t (u 39 0 k)) k t j) 40 0 (2 * t + j) ((d_cn (m_u3 (m_u3 (m_u3 (m_u3 (m_u3 (m_u3 (m_u3 u 33 0 t (u 33 0 k)) 34 0 t (u 34 0 k)) 35 0 t (u 35 0 k)) 36 0 t (u 36 0 k)) 37 0 t (u 37 0 k)) 38 0 t (u 38 0 k)) 39 0 t (u 39 0 k)) k t j) 40 0 (2 * k + j))) 41 0 (2 * t + j) ((d_cn (m_u3 (m_u3 (m_u3 (m_u3 (m_u3 (m_u3 (m_u3 u 33 0 t (u 33 0 k)) 34 0 t (u 34 0 k)) 35 0 t (u 35 0 k)) 36 0 t (u 36 0 k)) 37 0 t (u 37 0 k)) 38 0 t (u 38 0 k)) 39 0 t (u 39 0 k)) k t j) 41 0 (2 * k + j))) 42 0 (2 * t + j) ((d_cn (m_u3 (m_u3 (m_u3 (m_u3 (m_u3 (m_u3 (m_u3 u 33 0 t (u 33 0 k)) 34 0 t (u 34 0 k)) 35 0 t (u 35 0 k)) 36 0 t (u 36 0 k)) 37 0 t (u 37 0 k)) 38 0 t (u 38 0 k)) 39 0 t (u 39 0 k)) k t j) 42 0 (2 * k + j)), c))) rfl rfl ?_
    exact G_is (by rw [← nI_succ]; rfl) K
  · skip
    refine G_steps 3 (S1 := (if 2 ≤ nI 2 then 157 else 91, [some (Sum.inr (Sum.inl (20, 0))), some (Sum.inl (nI k)), some (Sum.inl (nI t)), some (Sum.inl (nI 2))], [], (v, d_cn (m_u3 (m_u3 (m_u3 (m_u3 (m_u3 (m_u3 (m_u3 u 33 0 t (u 33 0 k)) 34 0 t (u 34 0 k)) 35 0 t (u 35 0 k)) 36 0 t (u 36 0 k)) 37 0 t (u 37 0 k)) 38 0 t (u 38 0 k)) 39 0 t (u 39 0 k)) k t 2, c))) rfl rfl ?_
    refine G_iT ((nI_le' (a := 2) (b := 2) (by omega) (by omega)).mpr (Nat.le_refl _)) ?_
    exact G_fin rfl rfl rfl
set_option maxRecDepth 100000 in
theorem e_m_takeOut (d : Nat) {n L : Nat} {xs : Nat → Int32} {v u : mV} {c : Nat} {k r : Nat} (hr : u 20 0 13 = nI (r + 1)) (hk : k ≤ r) (hr2 : r < 24) : E_v false n L xs (d + 2) 52 [Sum.inr (Sum.inl (20, 0)), Sum.inl (nI k)] (v, u, c) none (v, d_to u k r, c) := by
  refine E_mk mc_52 (by decide) ?_
  refine G_steps 3 (S1 := (4, [some (Sum.inr (Sum.inl (20, 0))), some (Sum.inl (nI k)), none], [Sum.inl 24, Sum.inl (nI k), Sum.inr (Sum.inl (20, 0))], (v, u, c))) rfl rfl ?_
  refine G_call (y := none) (M1 := (v, d_cp u k 24, c)) rfl rfl (e_m_copy (k := k) (t := 24) _ (by omega) (by omega)) ?_
  refine G_is (S' := (7, [some (Sum.inr (Sum.inl (20, 0))), some (Sum.inl (nI k)), none], [], (v, d_cp u k 24, c))) rfl ?_
  refine G_steps 3 (S1 := (12, [some (Sum.inr (Sum.inl (20, 0))), some (Sum.inl (nI k)), none], [Sum.inl ((d_cp u k 24) 20 0 13), Sum.inr (Sum.inl (20, 0))], (v, d_cp u k 24, c))) rfl rfl ?_
  refine G_top ((congrFun (congrFun (cp_k (k' := 20) rfl) 0) 13).trans hr) ?_
  refine G_steps 2 (S1 := (14, [some (Sum.inr (Sum.inl (20, 0))), some (Sum.inl (nI k)), none], [Sum.inl ((nI (r + 1)) - 1), Sum.inr (Sum.inl (20, 0))], (v, d_cp u k 24, c))) rfl rfl ?_
  refine G_top (nI_pred r) ?_
  refine G_steps 3 (S1 := (19, [some (Sum.inr (Sum.inl (20, 0))), some (Sum.inl (nI k)), some (Sum.inl (nI k))], [], (v, m_u3 (d_cp u k 24) 20 0 13 (nI r), c))) rfl rfl ?_
  refine G_is (S' := (19, [some (Sum.inr (Sum.inl (20, 0))), some (Sum.inl (nI k)), some (Sum.inl (nI (k + 0)))], [], (v, d_tl (m_u3 (d_cp u k 24) 20 0 13 (nI r)) k 0, c))) rfl ?_
  refine G_loop (S := fun j => (19, [some (Sum.inr (Sum.inl (20, 0))), some (Sum.inl (nI k)), some (Sum.inl (nI (k + j)))], [], (v, d_tl (m_u3 (d_cp u k 24) 20 0 13 (nI r)) k j, c))) (N := r - k) (fun j hj K => ?_) ?_
  · skip
    refine G_steps 3 (S1 := (24, [some (Sum.inr (Sum.inl (20, 0))), some (Sum.inl (nI k)), some (Sum.inl (nI (k + j)))], [Sum.inl ((d_tl (m_u3 (d_cp u k 24) 20 0 13 (nI r)) k j) 20 0 13), Sum.inl (nI (k + j))], (v, d_tl (m_u3 (d_cp u k 24) 20 0 13 (nI r)) k j, c))) rfl rfl ?_
    refine G_top ((congrFun (congrFun (tl_k (k' := 20) rfl) 0) 13).trans u3_s) ?_
    refine G_steps 1 (S1 := (if nI r ≤ nI (k + j) then 41 else 27, [some (Sum.inr (Sum.inl (20, 0))), some (Sum.inl (nI k)), some (Sum.inl (nI (k + j)))], [], (v, d_tl (m_u3 (d_cp u k 24) 20 0 13 (nI r)) k j, c))) rfl rfl ?_
    refine G_iF (fun z => absurd ((nI_le' (by omega) (by omega)).mp z) (by omega)) ?_
    refine G_steps 4 (S1 := (31, [some (Sum.inr (Sum.inl (20, 0))), some (Sum.inl (nI k)), some (Sum.inl (nI (k + j)))], [Sum.inl ((nI (k + j)) + 1), Sum.inr (Sum.inl (20, 0))], (v, d_tl (m_u3 (d_cp u k 24) 20 0 13 (nI r)) k j, c))) rfl rfl ?_
    refine G_top ((nI_succ (k + j)).symm) ?_
    refine G_steps 1 (S1 := (32, [some (Sum.inr (Sum.inl (20, 0))), some (Sum.inl (nI k)), some (Sum.inl (nI (k + j)))], [Sum.inl (nI (k + j)), Sum.inl (nI (k + j + 1)), Sum.inr (Sum.inl (20, 0))], (v, d_tl (m_u3 (d_cp u k 24) 20 0 13 (nI r)) k j, c))) rfl rfl ?_
    refine G_call (y := none) (M1 := (v, d_cp (d_tl (m_u3 (d_cp u k 24) 20 0 13 (nI r)) k j) (k + j + 1) (k + j), c)) rfl rfl (e_m_copy (k := (k + j + 1)) (t := (k + j)) _ (by omega) (by omega)) ?_
    refine G_is (S' := (35, [some (Sum.inr (Sum.inl (20, 0))), some (Sum.inl (nI k)), some (Sum.inl (nI (k + j)))], [], (v, d_cp (d_tl (m_u3 (d_cp u k 24) 20 0 13 (nI r)) k j) (k + j + 1) (k + j), c))) rfl ?_
    refine G_steps 2 (S1 := (19, [some (Sum.inr (Sum.inl (20, 0))), some (Sum.inl (nI k)), some (Sum.inl ((nI (k + j)) + 1))], [], (v, d_cp (d_tl (m_u3 (d_cp u k 24) 20 0 13 (nI r)) k j) (k + j + 1) (k + j), c))) rfl rfl ?_
    exact G_is (by rw [← nI_succ]; rfl) K
  · skip
    refine G_steps 3 (S1 := (24, [some (Sum.inr (Sum.inl (20, 0))), some (Sum.inl (nI k)), some (Sum.inl (nI (k + (r - k))))], [Sum.inl ((d_tl (m_u3 (d_cp u k 24) 20 0 13 (nI r)) k (r - k)) 20 0 13), Sum.inl (nI (k + (r - k)))], (v, d_tl (m_u3 (d_cp u k 24) 20 0 13 (nI r)) k (r - k), c))) rfl rfl ?_
    refine G_top ((congrFun (congrFun (tl_k (k' := 20) rfl) 0) 13).trans u3_s) ?_
    refine G_steps 1 (S1 := (if nI r ≤ nI (k + (r - k)) then 41 else 27, [some (Sum.inr (Sum.inl (20, 0))), some (Sum.inl (nI k)), some (Sum.inl (nI (k + (r - k))))], [], (v, d_tl (m_u3 (d_cp u k 24) 20 0 13 (nI r)) k (r - k), c))) rfl rfl ?_
    refine G_iT ((nI_le' (by omega) (by omega)).mpr (by omega)) ?_
    exact G_fin rfl rfl rfl
