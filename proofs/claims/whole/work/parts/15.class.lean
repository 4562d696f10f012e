def c_ann (v : mV) (a m : Nat) (s i : Int32) : mV := m_u3 (m_u3 (m_u3 v 9 a m s) 10 a m i) 11 a m 0
def c_adopt (v : mV) (a m : Nat) (s i : Int32) : mV := c_ann (m_u3 (m_u3 (m_u3 v 5 a m s) 6 a m i) 7 a m 0) a m s i
theorem fn_adopt {n a m : Nat} {s i : Int32} {v : mV} (h : F_n n v) : F_n n (c_adopt v a m s i) := fn_u3 (fn_u3 (fn_u3 (fn_u3 (fn_u3 (fn_u3 h rfl rfl) rfl rfl) rfl rfl) rfl rfl) rfl rfl) rfl rfl
theorem adopt_k {a m : Nat} {s i : Int32} {v : mV} {k : Nat} (h : (Nat.beq k 5 || (Nat.beq k 6 || (Nat.beq k 7 || (Nat.beq k 9 || (Nat.beq k 10 || Nat.beq k 11))))) = false) : c_adopt v a m s i k = v k := by
  simp only [Bool.or_eq_false_iff] at h
  obtain ⟨h5, h6, h7, h9, h10, h11⟩ := h
  unfold c_adopt c_ann
  rw [u3_k h11, u3_k h10, u3_k h9, u3_k h7, u3_k h6, u3_k h5]
def c_nw (s i t j : Int32) : Int32 := if t = 2 then 0 else if s = 2 then 1 else if s = 1 then (if t = 0 then (if i < j then 0 else 1) else (if i ≤ j then 0 else 1)) else (if i ≤ j then 0 else 1)
def c_hear (v : mV) (a m : Nat) (s i : Int32) : mV := if nI m = nI a then (if s = 0 then v else if i < v 6 a a then v else c_adopt v a a 0 (i + 1)) else (if c_nw s i (v 5 a m) (v 6 a m) = 0 then v else c_adopt v a m s i)
theorem fn_hear {n a m : Nat} {s i : Int32} {v : mV} (h : F_n n v) : F_n n (c_hear v a m s i) := by
  unfold c_hear
  split
  · split
    · exact h
    · split
      · exact h
      · exact fn_adopt h
  · split
    · exact h
    · exact fn_adopt h
theorem hear_k {a m : Nat} {s i : Int32} {v : mV} {k : Nat} (h : (Nat.beq k 5 || (Nat.beq k 6 || (Nat.beq k 7 || (Nat.beq k 9 || (Nat.beq k 10 || Nat.beq k 11))))) = false) : c_hear v a m s i k = v k := by
  unfold c_hear
  split
  · split
    · rfl
    · split
      · rfl
      · exact adopt_k h
  · split
    · rfl
    · exact adopt_k h
/-- j pieces of news of the message q heard by a -/
def c_hN (v : mV) (a q : Nat) : Nat → mV
  | 0 => v
  | j + 1 => c_hear (c_hN v a q j) a (ix (v 13 q j)) (v 14 q j) (v 15 q j)
theorem fn_hN {n a q j : Nat} {v : mV} (h : F_n n v) : F_n n (c_hN v a q j) := by
  induction j with
  | zero => exact h
  | succ j ih => exact fn_hear ih
theorem hN_k {a q j : Nat} {v : mV} {k : Nat} (h : (Nat.beq k 5 || (Nat.beq k 6 || (Nat.beq k 7 || (Nat.beq k 9 || (Nat.beq k 10 || Nat.beq k 11))))) = false) : c_hN v a q j k = v k := by
  induction j with
  | zero => rfl
  | succ j ih => exact (hear_k h).trans ih
def c_lo (v : mV) (a : Nat) (e : Int32) : Nat → Option Nat
  | 0 => none
  | k + 1 => if nI k = e then c_lo v a e k else if v 11 a k = -1 then c_lo v a e k else match c_lo v a e k with
    | none => some k
    | some t => if v 11 a t ≤ v 11 a k then some t else some k
theorem lo_lt {v : mV} {a : Nat} {e : Int32} : ∀ (k t : Nat), c_lo v a e k = some t → t < k := by
  intro k
  induction k with
  | zero => intro t h; cases h
  | succ k ih =>
    intro t h
    unfold c_lo at h
    split at h
    · have := ih t h
      omega
    · split at h
      · have := ih t h
        omega
      · split at h
        · cases h
          omega
        · rename_i t2 h2
          have := ih t2 h2
          split at h <;> cases h <;> omega
/-- the news about m handed over to the message q, which carries cnt pieces -/
def c_ho (v : mV) (a : Nat) (m : Option Nat) (q cnt : Nat) : mV := match m with
  | none => v
  | some t => if v 11 a t + 1 = 6 then m_u3 (m_u3 (m_u3 (m_u3 (m_u3 (m_u3 v 13 q cnt (nI t)) 14 q cnt (v 9 a t)) 15 q cnt (v 10 a t)) 12 q 6 (nI (cnt + 1))) 11 a t (v 11 a t + 1)) 11 a t (-1) else m_u3 (m_u3 (m_u3 (m_u3 (m_u3 v 13 q cnt (nI t)) 14 q cnt (v 9 a t)) 15 q cnt (v 10 a t)) 12 q 6 (nI (cnt + 1))) 11 a t (v 11 a t + 1)
def c_load (n : Nat) (v : mV) (a q : Nat) : mV := match c_lo (m_u3 v 12 q 6 0) a (-1) n with
  | none => m_u3 v 12 q 6 0
  | some f => c_ho (c_ho (m_u3 v 12 q 6 0) a (some f) q 0) a (c_lo (m_u3 v 12 q 6 0) a (nI f) n) q 1
theorem fn_ho {n a q cnt : Nat} {m : Option Nat} {v : mV} (h : F_n n v) : F_n n (c_ho v a m q cnt) := by
  cases m with
  | none => exact h
  | some t =>
    unfold c_ho
    dsimp only
    split
    · exact fn_u3 (fn_u3 (fn_u3 (fn_u3 (fn_u3 (fn_u3 h rfl rfl) rfl rfl) rfl rfl) rfl rfl) rfl rfl) rfl rfl
    · exact fn_u3 (fn_u3 (fn_u3 (fn_u3 (fn_u3 h rfl rfl) rfl rfl) rfl rfl) rfl rfl) rfl rfl
theorem fn_load {n a q : Nat} {v : mV} (h : F_n n v) : F_n n (c_load n v a q) := by
  unfold c_load
  split
  · exact fn_u3 h rfl rfl
  · exact fn_ho (fn_ho (fn_u3 h rfl rfl))
set_option maxRecDepth 100000 in
theorem e_announce (d : Nat) {n L : Nat} {xs : Nat → Int32} {v u : mV} {c : Nat} {a m : Nat} {s i : Int32} (hn : n ≤ 6) (hm : m < n) : E_v false n L xs (d + 1) 11 [Sum.inr (Sum.inl (8, a)), Sum.inl (nI m), Sum.inl s, Sum.inl i] (v, u, c) none (c_ann v a m s i, u, c) := by
  refine E_mk mc_11 (by decide) ?_
  refine G_steps 4 (S1 := (6, [some (Sum.inr (Sum.inl (8, a))), some (Sum.inl (nI m)), some (Sum.inl s), some (Sum.inl i)], [Sum.inl s, Sum.inl (nI m), Sum.inr (Sum.inl (9, a))], (v, u, c))) rfl rfl ?_
  refine G_step (S1 := (7, [some (Sum.inr (Sum.inl (8, a))), some (Sum.inl (nI m)), some (Sum.inl s), some (Sum.inl i)], [], (m_u3 v 9 a (ix (nI m)) s, u, c))) rfl (ib_nI (j := m) (len := n) (by omega) (by omega)) ?_
  rw [ix_nI (j := m) (by omega)]
  refine G_steps 4 (S1 := (13, [some (Sum.inr (Sum.inl (8, a))), some (Sum.inl (nI m)), some (Sum.inl s), some (Sum.inl i)], [Sum.inl i, Sum.inl (nI m), Sum.inr (Sum.inl (10, a))], (m_u3 v 9 a m s, u, c))) rfl rfl ?_
  refine G_step (S1 := (14, [some (Sum.inr (Sum.inl (8, a))), some (Sum.inl (nI m)), some (Sum.inl s), some (Sum.inl i)], [], (m_u3 (m_u3 v 9 a m s) 10 a (ix (nI m)) i, u, c))) rfl (ib_nI (j := m) (len := n) (by omega) (by omega)) ?_
  rw [ix_nI (j := m) (by omega)]
  refine G_steps 4 (S1 := (20, [some (Sum.inr (Sum.inl (8, a))), some (Sum.inl (nI m)), some (Sum.inl s), some (Sum.inl i)], [Sum.inl 0, Sum.inl (nI m), Sum.inr (Sum.inl (11, a))], (m_u3 (m_u3 v 9 a m s) 10 a m i, u, c))) rfl rfl ?_
  refine G_step (S1 := (21, [some (Sum.inr (Sum.inl (8, a))), some (Sum.inl (nI m)), some (Sum.inl s), some (Sum.inl i)], [], (m_u3 (m_u3 (m_u3 v 9 a m s) 10 a m i) 11 a (ix (nI m)) 0, u, c))) rfl (ib_nI (j := m) (len := n) (by omega) (by omega)) ?_
  rw [ix_nI (j := m) (by omega)]
  exact G_fin rfl rfl (M_1 rfl)
set_option maxRecDepth 100000 in
theorem e_adopt (d : Nat) {n L : Nat} {xs : Nat → Int32} {v u : mV} {c : Nat} {a m : Nat} {s i : Int32} (hn : n ≤ 6) (hm : m < n) : E_v false n L xs (d + 2) 10 [Sum.inr (Sum.inl (4, a)), Sum.inl (nI m), Sum.inl s, Sum.inl i] (v, u, c) none (c_adopt v a m s i, u, c) := by
  refine E_mk mc_10 (by decide) ?_
  refine G_steps 4 (S1 := (6, [some (Sum.inr (Sum.inl (4, a))), some (Sum.inl (nI m)), some (Sum.inl s), some (Sum.inl i)], [Sum.inl s, Sum.inl (nI m), Sum.inr (Sum.inl (5, a))], (v, u, c))) rfl rfl ?_
  refine G_step (S1 := (7, [some (Sum.inr (Sum.inl (4, a))), some (Sum.inl (nI m)), some (Sum.inl s), some (Sum.inl i)], [], (m_u3 v 5 a (ix (nI m)) s, u, c))) rfl (ib_nI (j := m) (len := n) (by omega) (by omega)) ?_
  rw [ix_nI (j := m) (by omega)]
  refine G_steps 4 (S1 := (13, [some (Sum.inr (Sum.inl (4, a))), some (Sum.inl (nI m)), some (Sum.inl s), some (Sum.inl i)], [Sum.inl i, Sum.inl (nI m), Sum.inr (Sum.inl (6, a))], (m_u3 v 5 a m s, u, c))) rfl rfl ?_
  refine G_step (S1 := (14, [some (Sum.inr (Sum.inl (4, a))), some (Sum.inl (nI m)), some (Sum.inl s), some (Sum.inl i)], [], (m_u3 (m_u3 v 5 a m s) 6 a (ix (nI m)) i, u, c))) rfl (ib_nI (j := m) (len := n) (by omega) (by omega)) ?_
  rw [ix_nI (j := m) (by omega)]
  refine G_steps 4 (S1 := (20, [some (Sum.inr (Sum.inl (4, a))), some (Sum.inl (nI m)), some (Sum.inl s), some (Sum.inl i)], [Sum.inl 0, Sum.inl (nI m), Sum.inr (Sum.inl (7, a))], (m_u3 (m_u3 v 5 a m s) 6 a m i, u, c))) rfl rfl ?_
  refine G_step (S1 := (21, [some (Sum.inr (Sum.inl (4, a))), some (Sum.inl (nI m)), some (Sum.inl s), some (Sum.inl i)], [], (m_u3 (m_u3 (m_u3 v 5 a m s) 6 a m i) 7 a (ix (nI m)) 0, u, c))) rfl (ib_nI (j := m) (len := n) (by omega) (by omega)) ?_
  rw [ix_nI (j := m) (by omega)]
  refine G_steps 5 (S1 := (28, [some (Sum.inr (Sum.inl (4, a))), some (Sum.inl (nI m)), some (Sum.inl s), some (Sum.inl i)], [Sum.inl i, Sum.inl s, Sum.inl (nI m), Sum.inr (Sum.inl (8, a))], (m_u3 (m_u3 (m_u3 v 5 a m s) 6 a m i) 7 a m 0, u, c))) rfl rfl ?_
  refine G_call (y := none) (M1 := (c_ann (m_u3 (m_u3 (m_u3 v 5 a m s) 6 a m i) 7 a m 0) a m s i, u, c)) rfl rfl (e_announce _ hn (by omega)) ?_
  refine G_is (S' := (31, [some (Sum.inr (Sum.inl (4, a))), some (Sum.inl (nI m)), some (Sum.inl s), some (Sum.inl i)], [], (c_ann (m_u3 (m_u3 (m_u3 v 5 a m s) 6 a m i) 7 a m 0) a m s i, u, c))) rfl ?_
  exact G_fin rfl rfl (M_1 rfl)
set_option maxRecDepth 100000 in
theorem e_isNewer (d : Nat) {n L : Nat} {xs : Nat → Int32} {v u : mV} {c : Nat} {s i t j : Int32} : E_v false n L xs (d + 1) 31 [Sum.inl s, Sum.inl i, Sum.inl t, Sum.inl j] (v, u, c) (some (Sum.inl (c_nw s i t j))) (v, u, c) := by
  refine E_mk mc_31 (by decide) ?_
  refine G_steps 3 (S1 := (if ¬ t = 2 then 7 else 5, [some (Sum.inl s), some (Sum.inl i), some (Sum.inl t), some (Sum.inl j)], [], (v, u, c))) rfl rfl ?_
  refine G_ifn (fun h1 => ?_) (fun h1 => ?_)
  · skip
    refine G_steps 3 (S1 := (if ¬ s = 2 then 14 else 12, [some (Sum.inl s), some (Sum.inl i), some (Sum.inl t), some (Sum.inl j)], [], (v, u, c))) rfl rfl ?_
    refine G_ifn (fun h2 => ?_) (fun h2 => ?_)
    · skip
      refine G_steps 3 (S1 := (if ¬ s = 1 then 36 else 19, [some (Sum.inl s), some (Sum.inl i), some (Sum.inl t), some (Sum.inl j)], [], (v, u, c))) rfl rfl ?_
      refine G_ifn (fun h3 => ?_) (fun h3 => ?_)
      · skip
        refine G_steps 3 (S1 := (if i ≤ j then 45 else 41, [some (Sum.inl s), some (Sum.inl i), some (Sum.inl t), some (Sum.inl j)], [], (v, u, c))) rfl rfl ?_
        refine G_if (fun h4 => ?_) (fun h4 => ?_)
        · skip
          refine G_steps 1 (S1 := (46, [some (Sum.inl s), some (Sum.inl i), some (Sum.inl t), some (Sum.inl j)], [Sum.inl 0], (v, u, c))) rfl rfl ?_
          exact G_fin rfl (by simp only [c_nw, if_neg h1, if_neg h2, if_neg h3, if_pos h4]) rfl
        · skip
          refine G_steps 2 (S1 := (46, [some (Sum.inl s), some (Sum.inl i), some (Sum.inl t), some (Sum.inl j)], [Sum.inl 1], (v, u, c))) rfl rfl ?_
          exact G_fin rfl (by simp only [c_nw, if_neg h1, if_neg h2, if_neg h3, if_neg h4]) rfl
      · skip
        refine G_steps 2 (S1 := (if ¬ t = 0 then 36 else 23, [some (Sum.inl s), some (Sum.inl i), some (Sum.inl t), some (Sum.inl j)], [], (v, u, c))) rfl rfl ?_
        refine G_ifn (fun h5 => ?_) (fun h5 => ?_)
        · skip
          refine G_steps 3 (S1 := (if i ≤ j then 45 else 41, [some (Sum.inl s), some (Sum.inl i), some (Sum.inl t), some (Sum.inl j)], [], (v, u, c))) rfl rfl ?_
          refine G_if (fun h6 => ?_) (fun h6 => ?_)
          · skip
            refine G_steps 1 (S1 := (46, [some (Sum.inl s), some (Sum.inl i), some (Sum.inl t), some (Sum.inl j)], [Sum.inl 0], (v, u, c))) rfl rfl ?_
            exact G_fin rfl (by simp only [c_nw, if_neg h1, if_neg h2, if_pos h3, if_neg h5, if_pos h6]) rfl
          · skip
            refine G_steps 2 (S1 := (46, [some (Sum.inl s), some (Sum.inl i), some (Sum.inl t), some (Sum.inl j)], [Sum.inl 1], (v, u, c))) rfl rfl ?_
            exact G_fin rfl (by simp only [c_nw, if_neg h1, if_neg h2, if_pos h3, if_neg h5, if_neg h6]) rfl
        · skip
          refine G_steps 3 (S1 := (if i < j then 32 else 28, [some (Sum.inl s), some (Sum.inl i), some (Sum.inl t), some (Sum.inl j)], [], (v, u, c))) rfl rfl ?_
          refine G_if (fun h7 => ?_) (fun h7 => ?_)
          · skip
            refine G_steps 2 (S1 := (46, [some (Sum.inl s), some (Sum.inl i), some (Sum.inl t), some (Sum.inl j)], [Sum.inl 0], (v, u, c))) rfl rfl ?_
            exact G_fin rfl (by simp only [c_nw, if_neg h1, if_neg h2, if_pos h3, if_pos h5, if_pos h7]) rfl
          · skip
            refine G_steps 2 (S1 := (46, [some (Sum.inl s), some (Sum.inl i), some (Sum.inl t), some (Sum.inl j)], [Sum.inl 1], (v, u, c))) rfl rfl ?_
            exact G_fin rfl (by simp only [c_nw, if_neg h1, if_neg h2, if_pos h3, if_pos h5, if_neg h7]) rfl
    · skip
      refine G_steps 1 (S1 := (13, [some (Sum.inl s), some (Sum.inl i), some (Sum.inl t), some (Sum.inl j)], [Sum.inl 1], (v, u, c))) rfl rfl ?_
      exact G_fin rfl (by simp only [c_nw, if_neg h1, if_pos h2]) rfl
  · skip
    refine G_steps 1 (S1 := (6, [some (Sum.inl s), some (Sum.inl i), some (Sum.inl t), some (Sum.inl j)], [Sum.inl 0], (v, u, c))) rfl rfl ?_
    exact G_fin rfl (by simp only [c_nw, if_pos h1]) rfl
set_option maxRecDepth 100000 in
theorem e_hear (d : Nat) {n L : Nat} {xs : Nat → Int32} {v u : mV} {c : Nat} {a m : Nat} {s i : Int32} (hn : n ≤ 6) (hf : F_n n v) (ha : a < n) (hm : m < n) : E_v false n L xs (d + 3) 30 [Sum.inr (Sum.inl (4, a)), Sum.inl (nI m), Sum.inl s, Sum.inl i] (v, u, c) none (c_hear v a m s i, u, c) := by
  refine E_mk mc_30 (by decide) ?_
  refine G_steps 3 (S1 := (5, [some (Sum.inr (Sum.inl (4, a))), some (Sum.inl (nI m)), some (Sum.inl s), some (Sum.inl i)], [Sum.inl (v 4 a 0), Sum.inl (nI m)], (v, u, c))) rfl rfl ?_
  refine G_top ((hf.2 a (by omega)).1) ?_
  refine G_steps 1 (S1 := (if ¬ nI m = nI a then 40 else 8, [some (Sum.inr (Sum.inl (4, a))), some (Sum.inl (nI m)), some (Sum.inl s), some (Sum.inl i)], [], (v, u, c))) rfl rfl ?_
  refine G_ifn (fun h1 => ?_) (fun h1 => ?_)
  · skip
    refine G_steps 5 (S1 := (47, [some (Sum.inr (Sum.inl (4, a))), some (Sum.inl (nI m)), some (Sum.inl s), some (Sum.inl i)], [Sum.inl (nI m), Sum.inr (Sum.inl (5, a)), Sum.inl i, Sum.inl s], (v, u, c))) rfl rfl ?_
    refine G_step (S1 := (48, [some (Sum.inr (Sum.inl (4, a))), some (Sum.inl (nI m)), some (Sum.inl s), some (Sum.inl i)], [Sum.inl (v 5 a (ix (nI m))), Sum.inl i, Sum.inl s], (v, u, c))) rfl (ib_nI (j := m) (len := n) (by omega) (by omega)) ?_
    rw [ix_nI (j := m) (by omega)]
    refine G_steps 3 (S1 := (53, [some (Sum.inr (Sum.inl (4, a))), some (Sum.inl (nI m)), some (Sum.inl s), some (Sum.inl i)], [Sum.inl (nI m), Sum.inr (Sum.inl (6, a)), Sum.inl (v 5 a m), Sum.inl i, Sum.inl s], (v, u, c))) rfl rfl ?_
    refine G_step (S1 := (54, [some (Sum.inr (Sum.inl (4, a))), some (Sum.inl (nI m)), some (Sum.inl s), some (Sum.inl i)], [Sum.inl (v 6 a (ix (nI m))), Sum.inl (v 5 a m), Sum.inl i, Sum.inl s], (v, u, c))) rfl (ib_nI (j := m) (len := n) (by omega) (by omega)) ?_
    rw [ix_nI (j := m) (by omega)]
    refine G_call (y := some (Sum.inl (c_nw s i (v 5 a m) (v 6 a m)))) (M1 := (v, u, c)) rfl rfl (e_isNewer _) ?_
    refine G_is (S' := (57, [some (Sum.inr (Sum.inl (4, a))), some (Sum.inl (nI m)), some (Sum.inl s), some (Sum.inl i)], [Sum.inl (c_nw s i (v 5 a m) (v 6 a m))], (v, u, c))) rfl ?_
    refine G_steps 1 (S1 := (if c_nw s i (v 5 a m) (v 6 a m) = 0 then 67 else 60, [some (Sum.inr (Sum.inl (4, a))), some (Sum.inl (nI m)), some (Sum.inl s), some (Sum.inl i)], [], (v, u, c))) rfl rfl ?_
    refine G_if (fun h2 => ?_) (fun h2 => ?_)
    · skip
      exact G_fin rfl rfl (M_1 (by simp only [c_hear, if_neg h1, if_pos h2]))
    · skip
      refine G_steps 4 (S1 := (64, [some (Sum.inr (Sum.inl (4, a))), some (Sum.inl (nI m)), some (Sum.inl s), some (Sum.inl i)], [Sum.inl i, Sum.inl s, Sum.inl (nI m), Sum.inr (Sum.inl (4, a))], (v, u, c))) rfl rfl ?_
      refine G_call (y := none) (M1 := (c_adopt v a m s i, u, c)) rfl rfl (e_adopt _ hn (by omega)) ?_
      refine G_is (S' := (67, [some (Sum.inr (Sum.inl (4, a))), some (Sum.inl (nI m)), some (Sum.inl s), some (Sum.inl i)], [], (c_adopt v a m s i, u, c))) rfl ?_
      exact G_fin rfl rfl (M_1 (by simp only [c_hear, if_neg h1, if_neg h2]))
  · skip
    refine G_steps 2 (S1 := (if s = 0 then 67 else 12, [some (Sum.inr (Sum.inl (4, a))), some (Sum.inl (nI m)), some (Sum.inl s), some (Sum.inl i)], [], (v, u, c))) rfl rfl ?_
    refine G_if (fun h3 => ?_) (fun h3 => ?_)
    · skip
      exact G_fin rfl rfl (M_1 (by simp only [c_hear, if_pos h1, if_pos h3]))
    · skip
      refine G_steps 5 (S1 := (21, [some (Sum.inr (Sum.inl (4, a))), some (Sum.inl (nI m)), some (Sum.inl s), some (Sum.inl i)], [Sum.inl (v 4 a 0), Sum.inr (Sum.inl (6, a)), Sum.inl i], (v, u, c))) rfl rfl ?_
      refine G_top ((hf.2 a (by omega)).1) ?_
      refine G_step (S1 := (22, [some (Sum.inr (Sum.inl (4, a))), some (Sum.inl (nI m)), some (Sum.inl s), some (Sum.inl i)], [Sum.inl (v 6 a (ix (nI a))), Sum.inl i], (v, u, c))) rfl (ib_nI (j := a) (len := n) (by omega) (by omega)) ?_
      rw [ix_nI (j := a) (by omega)]
      refine G_steps 1 (S1 := (if i < v 6 a a then 67 else 25, [some (Sum.inr (Sum.inl (4, a))), some (Sum.inl (nI m)), some (Sum.inl s), some (Sum.inl i)], [], (v, u, c))) rfl rfl ?_
      refine G_if (fun h4 => ?_) (fun h4 => ?_)
      · skip
        exact G_fin rfl rfl (M_1 (by simp only [c_hear, if_pos h1, if_neg h3, if_pos h4]))
      · skip
        refine G_steps 3 (S1 := (30, [some (Sum.inr (Sum.inl (4, a))), some (Sum.inl (nI m)), some (Sum.inl s), some (Sum.inl i)], [Sum.inl (v 4 a 0), Sum.inr (Sum.inl (4, a))], (v, u, c))) rfl rfl ?_
        refine G_top ((hf.2 a (by omega)).1) ?_
        refine G_steps 4 (S1 := (34, [some (Sum.inr (Sum.inl (4, a))), some (Sum.inl (nI m)), some (Sum.inl s), some (Sum.inl i)], [Sum.inl (i + 1), Sum.inl 0, Sum.inl (nI a), Sum.inr (Sum.inl (4, a))], (v, u, c))) rfl rfl ?_
        refine G_call (y := none) (M1 := (c_adopt v a a 0 (i + 1), u, c)) rfl rfl (e_adopt _ hn (by omega)) ?_
        refine G_is (S' := (37, [some (Sum.inr (Sum.inl (4, a))), some (Sum.inl (nI m)), some (Sum.inl s), some (Sum.inl i)], [], (c_adopt v a a 0 (i + 1), u, c))) rfl ?_
        refine G_steps 1 (S1 := (67, [some (Sum.inr (Sum.inl (4, a))), some (Sum.inl (nI m)), some (Sum.inl s), some (Sum.inl i)], [], (c_adopt v a a 0 (i + 1), u, c))) rfl rfl ?_
        exact G_fin rfl rfl (M_1 (by simp only [c_hear, if_pos h1, if_neg h3, if_neg h4]))
set_option maxRecDepth 100000 in
theorem e_hearAll (d : Nat) {n L : Nat} {xs : Nat → Int32} {v u : mV} {c : Nat} {a q cnt : Nat} (hn : n ≤ 6) (hf : F_n n v) (ha : a < n) (hc6 : v 12 q 6 = nI cnt) (hct : cnt ≤ 2) (hnd : ∀ j, j < cnt → v 13 q j = nI (ix (v 13 q j)) ∧ ix (v 13 q j) < n) : E_v false n L xs (d + 4) 29 [Sum.inr (Sum.inl (4, a)), Sum.inr (Sum.inl (12, q))] (v, u, c) none (c_hN v a q cnt, u, c) := by
  refine E_mk mc_29 (by decide) ?_
  refine G_steps 2 (S1 := (2, [some (Sum.inr (Sum.inl (4, a))), some (Sum.inr (Sum.inl (12, q))), some (Sum.inl (nI 0))], [], (c_hN v a q 0, u, c))) rfl rfl ?_
  refine G_loop (S := fun k => (2, [some (Sum.inr (Sum.inl (4, a))), some (Sum.inr (Sum.inl (12, q))), some (Sum.inl (nI k))], [], (c_hN v a q k, u, c))) (N := cnt) (fun k hk K => ?_) ?_
  · skip
    refine G_steps 3 (S1 := (7, [some (Sum.inr (Sum.inl (4, a))), some (Sum.inr (Sum.inl (12, q))), some (Sum.inl (nI k))], [Sum.inl ((c_hN v a q k) 12 q 6), Sum.inl (nI k)], (c_hN v a q k, u, c))) rfl rfl ?_
    refine G_top ((congrFun (congrFun (hN_k rfl) q) 6).trans hc6) ?_
    refine G_steps 1 (S1 := (if nI cnt ≤ nI k then 38 else 10, [some (Sum.inr (Sum.inl (4, a))), some (Sum.inr (Sum.inl (12, q))), some (Sum.inl (nI k))], [], (c_hN v a q k, u, c))) rfl rfl ?_
    refine G_iF (fun z => absurd ((nI_le' (by omega) (by omega)).mp z) (by omega)) ?_
    refine G_steps 4 (S1 := (16, [some (Sum.inr (Sum.inl (4, a))), some (Sum.inr (Sum.inl (12, q))), some (Sum.inl (nI k))], [Sum.inl (nI k), Sum.inr (Sum.inl (13, q)), Sum.inr (Sum.inl (4, a))], (c_hN v a q k, u, c))) rfl rfl ?_
    refine G_step (S1 := (17, [some (Sum.inr (Sum.inl (4, a))), some (Sum.inr (Sum.inl (12, q))), some (Sum.inl (nI k))], [Sum.inl ((c_hN v a q k) 13 q (ix (nI k))), Sum.inr (Sum.inl (4, a))], (c_hN v a q k, u, c))) rfl (ib_nI (j := k) (len := 2) (by omega) (by omega)) ?_
    rw [ix_nI (j := k) (by omega)]
    refine G_top ((congrFun (congrFun (hN_k rfl) q) k).trans (hnd k (by omega)).1) ?_
    refine G_steps 3 (S1 := (22, [some (Sum.inr (Sum.inl (4, a))), some (Sum.inr (Sum.inl (12, q))), some (Sum.inl (nI k))], [Sum.inl (nI k), Sum.inr (Sum.inl (14, q)), Sum.inl (nI (ix (v 13 q k))), Sum.inr (Sum.inl (4, a))], (c_hN v a q k, u, c))) rfl rfl ?_
    refine G_step (S1 := (23, [some (Sum.inr (Sum.inl (4, a))), some (Sum.inr (Sum.inl (12, q))), some (Sum.inl (nI k))], [Sum.inl ((c_hN v a q k) 14 q (ix (nI k))), Sum.inl (nI (ix (v 13 q k))), Sum.inr (Sum.inl (4, a))], (c_hN v a q k, u, c))) rfl (ib_nI (j := k) (len := 2) (by omega) (by omega)) ?_
    rw [ix_nI (j := k) (by omega)]
    refine G_top (congrFun (congrFun (hN_k rfl) q) k) ?_
    refine G_steps 3 (S1 := (28, [some (Sum.inr (Sum.inl (4, a))), some (Sum.inr (Sum.inl (12, q))), some (Sum.inl (nI k))], [Sum.inl (nI k), Sum.inr (Sum.inl (15, q)), Sum.inl (v 14 q k), Sum.inl (nI (ix (v 13 q k))), Sum.inr (Sum.inl (4, a))], (c_hN v a q k, u, c))) rfl rfl ?_
    refine G_step (S1 := (29, [some (Sum.inr (Sum.inl (4, a))), some (Sum.inr (Sum.inl (12, q))), some (Sum.inl (nI k))], [Sum.inl ((c_hN v a q k) 15 q (ix (nI k))), Sum.inl (v 14 q k), Sum.inl (nI (ix (v 13 q k))), Sum.inr (Sum.inl (4, a))], (c_hN v a q k, u, c))) rfl (ib_nI (j := k) (len := 2) (by omega) (by omega)) ?_
    rw [ix_nI (j := k) (by omega)]
    refine G_top (congrFun (congrFun (hN_k rfl) q) k) ?_
    refine G_call (y := none) (M1 := (c_hear (c_hN v a q k) a (ix (v 13 q k)) (v 14 q k) (v 15 q k), u, c)) rfl rfl (e_hear _ hn (fn_hN hf) ha (hnd k (by omega)).2) ?_
    refine G_is (S' := (32, [some (Sum.inr (Sum.inl (4, a))), some (Sum.inr (Sum.inl (12, q))), some (Sum.inl (nI k))], [], (c_hear (c_hN v a q k) a (ix (v 13 q k)) (v 14 q k) (v 15 q k), u, c))) rfl ?_
    refine G_steps 2 (S1 := (2, [some (Sum.inr (Sum.inl (4, a))), some (Sum.inr (Sum.inl (12, q))), some (Sum.inl ((nI k) + 1))], [], (c_hear (c_hN v a q k) a (ix (v 13 q k)) (v 14 q k) (v 15 q k), u, c))) rfl rfl ?_
    exact G_is (by rw [← nI_succ]; rfl) K
  · skip
    refine G_steps 3 (S1 := (7, [some (Sum.inr (Sum.inl (4, a))), some (Sum.inr (Sum.inl (12, q))), some (Sum.inl (nI cnt))], [Sum.inl ((c_hN v a q cnt) 12 q 6), Sum.inl (nI cnt)], (c_hN v a q cnt, u, c))) rfl rfl ?_
    refine G_top ((congrFun (congrFun (hN_k rfl) q) 6).trans hc6) ?_
    refine G_steps 1 (S1 := (if nI cnt ≤ nI cnt then 38 else 10, [some (Sum.inr (Sum.inl (4, a))), some (Sum.inr (Sum.inl (12, q))), some (Sum.inl (nI cnt))], [], (c_hN v a q cnt, u, c))) rfl rfl ?_
    refine G_iT ((nI_le' (by omega) (by omega)).mpr (Nat.le_refl _)) ?_
    exact G_fin rfl rfl rfl
set_option maxRecDepth 100000 in
theorem e_leastSentBut (d : Nat) {n L : Nat} {xs : Nat → Int32} {v u : mV} {c : Nat} {a : Nat} {e : Int32} (hn : n ≤ 6) : E_v false n L xs (d + 1) 20 [Sum.inr (Sum.inl (8, a)), Sum.inl e] (v, u, c) (some (Sum.inl (oI (c_lo v a e n)))) (v, u, c) := by
  refine E_mk mc_20 (by decide) ?_
  refine G_steps 4 (S1 := (4, [some (Sum.inr (Sum.inl (8, a))), some (Sum.inl e), some (Sum.inl (oI (c_lo v a e 0))), some (Sum.inl (nI 0))], [], (v, u, c))) rfl rfl ?_
  refine G_loop (S := fun k => (4, [some (Sum.inr (Sum.inl (8, a))), some (Sum.inl e), some (Sum.inl (oI (c_lo v a e k))), some (Sum.inl (nI k))], [], (v, u, c))) (N := n) (fun k hk K => ?_) ?_
  · skip
    cases hp : c_lo v a e k with
    | none =>
      refine G_is (S' := (4, [some (Sum.inr (Sum.inl (8, a))), some (Sum.inl e), some (Sum.inl (-1)), some (Sum.inl (nI k))], [], (v, u, c))) rfl ?_
      refine G_steps 5 (S1 := (if nI n ≤ nI k then 56 else 13, [some (Sum.inr (Sum.inl (8, a))), some (Sum.inl e), some (Sum.inl (-1)), some (Sum.inl (nI k))], [], (v, u, c))) rfl rfl ?_
      refine G_iF (fun z => absurd ((nI_le' (by omega) (by omega)).mp z) (by omega)) ?_
      refine G_steps 3 (S1 := (if nI k = e then 50 else 18, [some (Sum.inr (Sum.inl (8, a))), some (Sum.inl e), some (Sum.inl (-1)), some (Sum.inl (nI k))], [], (v, u, c))) rfl rfl ?_
      refine G_if (fun h1 => ?_) (fun h1 => ?_)
      · skip
        refine G_steps 2 (S1 := (4, [some (Sum.inr (Sum.inl (8, a))), some (Sum.inl e), some (Sum.inl (-1)), some (Sum.inl ((nI k) + 1))], [], (v, u, c))) rfl rfl ?_
        exact G_is (by simp only [c_lo, hp, oI, nI_succ, if_pos h1]) K
      · skip
        refine G_steps 3 (S1 := (23, [some (Sum.inr (Sum.inl (8, a))), some (Sum.inl e), some (Sum.inl (-1)), some (Sum.inl (nI k))], [Sum.inl (nI k), Sum.inr (Sum.inl (11, a))], (v, u, c))) rfl rfl ?_
        refine G_step (S1 := (24, [some (Sum.inr (Sum.inl (8, a))), some (Sum.inl e), some (Sum.inl (-1)), some (Sum.inl (nI k))], [Sum.inl (v 11 a (ix (nI k)))], (v, u, c))) rfl (ib_nI (j := k) (len := n) (by omega) (by omega)) ?_
        rw [ix_nI (j := k) (by omega)]
        refine G_steps 2 (S1 := (if v 11 a k = (-1) then 50 else 28, [some (Sum.inr (Sum.inl (8, a))), some (Sum.inl e), some (Sum.inl (-1)), some (Sum.inl (nI k))], [], (v, u, c))) rfl rfl ?_
        refine G_if (fun h2 => ?_) (fun h2 => ?_)
        · skip
          refine G_steps 2 (S1 := (4, [some (Sum.inr (Sum.inl (8, a))), some (Sum.inl e), some (Sum.inl (-1)), some (Sum.inl ((nI k) + 1))], [], (v, u, c))) rfl rfl ?_
          exact G_is (by simp only [c_lo, hp, oI, nI_succ, if_neg h1, if_pos h2]) K
        · skip
          refine G_steps 3 (S1 := (if (-1) = (-1) then 48 else 33, [some (Sum.inr (Sum.inl (8, a))), some (Sum.inl e), some (Sum.inl (-1)), some (Sum.inl (nI k))], [], (v, u, c))) rfl rfl ?_
          refine G_iT rfl ?_
          refine G_steps 4 (S1 := (4, [some (Sum.inr (Sum.inl (8, a))), some (Sum.inl e), some (Sum.inl (nI k)), some (Sum.inl ((nI k) + 1))], [], (v, u, c))) rfl rfl ?_
          exact G_is (by simp only [c_lo, hp, oI, nI_succ, if_neg h1, if_neg h2]) K
    | some t =>
      have ht := lo_lt k t hp
      refine G_is (S' := (4, [some (Sum.inr (Sum.inl (8, a))), some (Sum.inl e), some (Sum.inl (nI t)), some (Sum.inl (nI k))], [], (v, u, c))) rfl ?_
      refine G_steps 5 (S1 := (if nI n ≤ nI k then 56 else 13, [some (Sum.inr (Sum.inl (8, a))), some (Sum.inl e), some (Sum.inl (nI t)), some (Sum.inl (nI k))], [], (v, u, c))) rfl rfl ?_
      refine G_iF (fun z => absurd ((nI_le' (by omega) (by omega)).mp z) (by omega)) ?_
      refine G_steps 3 (S1 := (if nI k = e then 50 else 18, [some (Sum.inr (Sum.inl (8, a))), some (Sum.inl e), some (Sum.inl (nI t)), some (Sum.inl (nI k))], [], (v, u, c))) rfl rfl ?_
      refine G_if (fun h1 => ?_) (fun h1 => ?_)
      · skip
        refine G_steps 2 (S1 := (4, [some (Sum.inr (Sum.inl (8, a))), some (Sum.inl e), some (Sum.inl (nI t)), some (Sum.inl ((nI k) + 1))], [], (v, u, c))) rfl rfl ?_
        exact G_is (by simp only [c_lo, hp, oI, nI_succ, if_pos h1]) K
      · skip
        refine G_steps 3 (S1 := (23, [some (Sum.inr (Sum.inl (8, a))), some (Sum.inl e), some (Sum.inl (nI t)), some (Sum.inl (nI k))], [Sum.inl (nI k), Sum.inr (Sum.inl (11, a))], (v, u, c))) rfl rfl ?_
        refine G_step (S1 := (24, [some (Sum.inr (Sum.inl (8, a))), some (Sum.inl e), some (Sum.inl (nI t)), some (Sum.inl (nI k))], [Sum.inl (v 11 a (ix (nI k)))], (v, u, c))) rfl (ib_nI (j := k) (len := n) (by omega) (by omega)) ?_
        rw [ix_nI (j := k) (by omega)]
        refine G_steps 2 (S1 := (if v 11 a k = (-1) then 50 else 28, [some (Sum.inr (Sum.inl (8, a))), some (Sum.inl e), some (Sum.inl (nI t)), some (Sum.inl (nI k))], [], (v, u, c))) rfl rfl ?_
        refine G_if (fun h2 => ?_) (fun h2 => ?_)
        · skip
          refine G_steps 2 (S1 := (4, [some (Sum.inr (Sum.inl (8, a))), some (Sum.inl e), some (Sum.inl (nI t)), some (Sum.inl ((nI k) + 1))], [], (v, u, c))) rfl rfl ?_
          exact G_is (by simp only [c_lo, hp, oI, nI_succ, if_neg h1, if_pos h2]) K
        · skip
          refine G_steps 3 (S1 := (if nI t = (-1) then 48 else 33, [some (Sum.inr (Sum.inl (8, a))), some (Sum.inl e), some (Sum.inl (nI t)), some (Sum.inl (nI k))], [], (v, u, c))) rfl rfl ?_
          refine G_iF (nI_m1 (by omega)) ?_
          refine G_steps 3 (S1 := (38, [some (Sum.inr (Sum.inl (8, a))), some (Sum.inl e), some (Sum.inl (nI t)), some (Sum.inl (nI k))], [Sum.inl (nI k), Sum.inr (Sum.inl (11, a))], (v, u, c))) rfl rfl ?_
          refine G_step (S1 := (39, [some (Sum.inr (Sum.inl (8, a))), some (Sum.inl e), some (Sum.inl (nI t)), some (Sum.inl (nI k))], [Sum.inl (v 11 a (ix (nI k)))], (v, u, c))) rfl (ib_nI (j := k) (len := n) (by omega) (by omega)) ?_
          rw [ix_nI (j := k) (by omega)]
          refine G_steps 3 (S1 := (44, [some (Sum.inr (Sum.inl (8, a))), some (Sum.inl e), some (Sum.inl (nI t)), some (Sum.inl (nI k))], [Sum.inl (nI t), Sum.inr (Sum.inl (11, a)), Sum.inl (v 11 a k)], (v, u, c))) rfl rfl ?_
          refine G_step (S1 := (45, [some (Sum.inr (Sum.inl (8, a))), some (Sum.inl e), some (Sum.inl (nI t)), some (Sum.inl (nI k))], [Sum.inl (v 11 a (ix (nI t))), Sum.inl (v 11 a k)], (v, u, c))) rfl (ib_nI (j := t) (len := n) (by omega) (by omega)) ?_
          rw [ix_nI (j := t) (by omega)]
          refine G_steps 1 (S1 := (if v 11 a t ≤ v 11 a k then 50 else 48, [some (Sum.inr (Sum.inl (8, a))), some (Sum.inl e), some (Sum.inl (nI t)), some (Sum.inl (nI k))], [], (v, u, c))) rfl rfl ?_
          refine G_if (fun h3 => ?_) (fun h3 => ?_)
          · skip
            refine G_steps 2 (S1 := (4, [some (Sum.inr (Sum.inl (8, a))), some (Sum.inl e), some (Sum.inl (nI t)), some (Sum.inl ((nI k) + 1))], [], (v, u, c))) rfl rfl ?_
            exact G_is (by simp only [c_lo, hp, oI, nI_succ, if_neg h1, if_neg h2, if_pos h3]) K
          · skip
            refine G_steps 4 (S1 := (4, [some (Sum.inr (Sum.inl (8, a))), some (Sum.inl e), some (Sum.inl (nI k)), some (Sum.inl ((nI k) + 1))], [], (v, u, c))) rfl rfl ?_
            exact G_is (by simp only [c_lo, hp, oI, nI_succ, if_neg h1, if_neg h2, if_neg h3]) K
  · skip
    refine G_steps 5 (S1 := (if nI n ≤ nI n then 56 else 13, [some (Sum.inr (Sum.inl (8, a))), some (Sum.inl e), some (Sum.inl (oI (c_lo v a e n))), some (Sum.inl (nI n))], [], (v, u, c))) rfl rfl ?_
    refine G_iT ((nI_le' (by omega) (by omega)).mpr (Nat.le_refl _)) ?_
    refine G_steps 1 (S1 := (57, [some (Sum.inr (Sum.inl (8, a))), some (Sum.inl e), some (Sum.inl (oI (c_lo v a e n))), some (Sum.inl (nI n))], [Sum.inl (oI (c_lo v a e n))], (v, u, c))) rfl rfl ?_
    exact G_fin rfl rfl rfl
set_option maxRecDepth 100000 in
theorem e_handOver0 (d : Nat) {n L : Nat} {xs : Nat → Int32} {v u : mV} {c : Nat} {a q cnt : Nat} (hn : n ≤ 6) : E_v false n L xs (d + 1) 21 [Sum.inr (Sum.inl (8, a)), Sum.inl (oI none), Sum.inr (Sum.inl (12, q))] (v, u, c) none (c_ho v a none q cnt, u, c) := by
  refine E_mk mc_21 (by decide) ?_
  refine G_steps 6 (S1 := (if oI none = (-1) then 15 else 10, [some (Sum.inr (Sum.inl (8, a))), some (Sum.inl (oI none)), some (Sum.inr (Sum.inl (12, q))), some (Sum.inl (v 12 q 6))], [], (v, u, c))) rfl rfl ?_
  refine G_iT rfl ?_
  exact G_fin rfl rfl rfl
set_option maxRecDepth 100000 in
theorem e_handOver (d : Nat) {n L : Nat} {xs : Nat → Int32} {v u : mV} {c : Nat} {a q cnt t : Nat} (hn : n ≤ 6) (ht : t < n) (hc6 : v 12 q 6 = nI cnt) (hct : cnt ≤ 1) : E_v false n L xs (d + 1) 21 [Sum.inr (Sum.inl (8, a)), Sum.inl (nI t), Sum.inr (Sum.inl (12, q))] (v, u, c) none (c_ho v a (some t) q cnt, u, c) := by
  refine E_mk mc_21 (by decide) ?_
  refine G_steps 2 (S1 := (4, [some (Sum.inr (Sum.inl (8, a))), some (Sum.inl (nI t)), some (Sum.inr (Sum.inl (12, q))), none], [Sum.inl (v 12 q 6)], (v, u, c))) rfl rfl ?_
  refine G_top hc6 ?_
  refine G_steps 4 (S1 := (if nI t = (-1) then 15 else 10, [some (Sum.inr (Sum.inl (8, a))), some (Sum.inl (nI t)), some (Sum.inr (Sum.inl (12, q))), some (Sum.inl (nI cnt))], [], (v, u, c))) rfl rfl ?_
  refine G_iF (nI_m1 (by omega)) ?_
  refine G_steps 3 (S1 := (if nI cnt < 2 then 16 else 15, [some (Sum.inr (Sum.inl (8, a))), some (Sum.inl (nI t)), some (Sum.inr (Sum.inl (12, q))), some (Sum.inl (nI cnt))], [], (v, u, c))) rfl rfl ?_
  refine G_iT ((nI_lt' (a := cnt) (b := 2) (by omega) (by omega)).mpr (by omega)) ?_
  refine G_steps 4 (S1 := (22, [some (Sum.inr (Sum.inl (8, a))), some (Sum.inl (nI t)), some (Sum.inr (Sum.inl (12, q))), some (Sum.inl (nI cnt))], [Sum.inl (nI t), Sum.inl (nI cnt), Sum.inr (Sum.inl (13, q))], (v, u, c))) rfl rfl ?_
  refine G_step (S1 := (23, [some (Sum.inr (Sum.inl (8, a))), some (Sum.inl (nI t)), some (Sum.inr (Sum.inl (12, q))), some (Sum.inl (nI cnt))], [], (m_u3 v 13 q (ix (nI cnt)) (nI t), u, c))) rfl (ib_nI (j := cnt) (len := 2) (by omega) (by omega)) ?_
  rw [ix_nI (j := cnt) (by omega)]
  refine G_steps 6 (S1 := (33, [some (Sum.inr (Sum.inl (8, a))), some (Sum.inl (nI t)), some (Sum.inr (Sum.inl (12, q))), some (Sum.inl (nI cnt))], [Sum.inl (nI t), Sum.inr (Sum.inl (9, a)), Sum.inl (nI cnt), Sum.inr (Sum.inl (14, q))], (m_u3 v 13 q cnt (nI t), u, c))) rfl rfl ?_
  refine G_step (S1 := (34, [some (Sum.inr (Sum.inl (8, a))), some (Sum.inl (nI t)), some (Sum.inr (Sum.inl (12, q))), some (Sum.inl (nI cnt))], [Sum.inl (v 9 a (ix (nI t))), Sum.inl (nI cnt), Sum.inr (Sum.inl (14, q))], (m_u3 v 13 q cnt (nI t), u, c))) rfl (ib_nI (j := t) (len := n) (by omega) (by omega)) ?_
  rw [ix_nI (j := t) (by omega)]
  refine G_step (S1 := (35, [some (Sum.inr (Sum.inl (8, a))), some (Sum.inl (nI t)), some (Sum.inr (Sum.inl (12, q))), some (Sum.inl (nI cnt))], [], (m_u3 (m_u3 v 13 q cnt (nI t)) 14 q (ix (nI cnt)) (v 9 a t), u, c))) rfl (ib_nI (j := cnt) (len := 2) (by omega) (by omega)) ?_
  rw [ix_nI (j := cnt) (by omega)]
  refine G_steps 6 (S1 := (45, [some (Sum.inr (Sum.inl (8, a))), some (Sum.inl (nI t)), some (Sum.inr (Sum.inl (12, q))), some (Sum.inl (nI cnt))], [Sum.inl (nI t), Sum.inr (Sum.inl (10, a)), Sum.inl (nI cnt), Sum.inr (Sum.inl (15, q))], (m_u3 (m_u3 v 13 q cnt (nI t)) 14 q cnt (v 9 a t), u, c))) rfl rfl ?_
  refine G_step (S1 := (46, [some (Sum.inr (Sum.inl (8, a))), some (Sum.inl (nI t)), some (Sum.inr (Sum.inl (12, q))), some (Sum.inl (nI cnt))], [Sum.inl (v 10 a (ix (nI t))), Sum.inl (nI cnt), Sum.inr (Sum.inl (15, q))], (m_u3 (m_u3 v 13 q cnt (nI t)) 14 q cnt (v 9 a t), u, c))) rfl (ib_nI (j := t) (len := n) (by omega) (by omega)) ?_
  rw [ix_nI (j := t) (by omega)]
  refine G_step (S1 := (47, [some (Sum.inr (Sum.inl (8, a))), some (Sum.inl (nI t)), some (Sum.inr (Sum.inl (12, q))), some (Sum.inl (nI cnt))], [], (m_u3 (m_u3 (m_u3 v 13 q cnt (nI t)) 14 q cnt (v 9 a t)) 15 q (ix (nI cnt)) (v 10 a t), u, c))) rfl (ib_nI (j := cnt) (len := 2) (by omega) (by omega)) ?_
  rw [ix_nI (j := cnt) (by omega)]
  refine G_steps 9 (S1 := (60, [some (Sum.inr (Sum.inl (8, a))), some (Sum.inl (nI t)), some (Sum.inr (Sum.inl (12, q))), some (Sum.inl (nI cnt))], [Sum.inl (nI t), Sum.inr (Sum.inl (11, a)), Sum.inl (nI t), Sum.inr (Sum.inl (11, a))], (m_u3 (m_u3 (m_u3 (m_u3 v 13 q cnt (nI t)) 14 q cnt (v 9 a t)) 15 q cnt (v 10 a t)) 12 q 6 ((nI cnt) + 1), u, c))) rfl rfl ?_
  refine G_step (S1 := (61, [some (Sum.inr (Sum.inl (8, a))), some (Sum.inl (nI t)), some (Sum.inr (Sum.inl (12, q))), some (Sum.inl (nI cnt))], [Sum.inl (v 11 a (ix (nI t))), Sum.inl (nI t), Sum.inr (Sum.inl (11, a))], (m_u3 (m_u3 (m_u3 (m_u3 v 13 q cnt (nI t)) 14 q cnt (v 9 a t)) 15 q cnt (v 10 a t)) 12 q 6 ((nI cnt) + 1), u, c))) rfl (ib_nI (j := t) (len := n) (by omega) (by omega)) ?_
  rw [ix_nI (j := t) (by omega)]
  refine G_steps 2 (S1 := (63, [some (Sum.inr (Sum.inl (8, a))), some (Sum.inl (nI t)), some (Sum.inr (Sum.inl (12, q))), some (Sum.inl (nI cnt))], [Sum.inl ((v 11 a t) + 1), Sum.inl (nI t), Sum.inr (Sum.inl (11, a))], (m_u3 (m_u3 (m_u3 (m_u3 v 13 q cnt (nI t)) 14 q cnt (v 9 a t)) 15 q cnt (v 10 a t)) 12 q 6 ((nI cnt) + 1), u, c))) rfl rfl ?_
  refine G_step (S1 := (64, [some (Sum.inr (Sum.inl (8, a))), some (Sum.inl (nI t)), some (Sum.inr (Sum.inl (12, q))), some (Sum.inl (nI cnt))], [], (m_u3 (m_u3 (m_u3 (m_u3 (m_u3 v 13 q cnt (nI t)) 14 q cnt (v 9 a t)) 15 q cnt (v 10 a t)) 12 q 6 ((nI cnt) + 1)) 11 a (ix (nI t)) ((v 11 a t) + 1), u, c))) rfl (ib_nI (j := t) (len := n) (by omega) (by omega)) ?_
  rw [ix_nI (j := t) (by omega)]
  refine G_steps 3 (S1 := (69, [some (Sum.inr (Sum.inl (8, a))), some (Sum.inl (nI t)), some (Sum.inr (Sum.inl (12, q))), some (Sum.inl (nI cnt))], [Sum.inl (nI t), Sum.inr (Sum.inl (11, a))], (m_u3 (m_u3 (m_u3 (m_u3 (m_u3 v 13 q cnt (nI t)) 14 q cnt (v 9 a t)) 15 q cnt (v 10 a t)) 12 q 6 ((nI cnt) + 1)) 11 a t ((v 11 a t) + 1), u, c))) rfl rfl ?_
  refine G_step (S1 := (70, [some (Sum.inr (Sum.inl (8, a))), some (Sum.inl (nI t)), some (Sum.inr (Sum.inl (12, q))), some (Sum.inl (nI cnt))], [Sum.inl ((m_u3 (m_u3 (m_u3 (m_u3 (m_u3 v 13 q cnt (nI t)) 14 q cnt (v 9 a t)) 15 q cnt (v 10 a t)) 12 q 6 ((nI cnt) + 1)) 11 a t ((v 11 a t) + 1)) 11 a (ix (nI t)))], (m_u3 (m_u3 (m_u3 (m_u3 (m_u3 v 13 q cnt (nI t)) 14 q cnt (v 9 a t)) 15 q cnt (v 10 a t)) 12 q 6 ((nI cnt) + 1)) 11 a t ((v 11 a t) + 1), u, c))) rfl (ib_nI (j := t) (len := n) (by omega) (by omega)) ?_
  rw [ix_nI (j := t) (by omega)]
  refine G_top u3_s ?_
  refine G_steps 2 (S1 := (if ¬ (v 11 a t) + 1 = 6 then 82 else 75, [some (Sum.inr (Sum.inl (8, a))), some (Sum.inl (nI t)), some (Sum.inr (Sum.inl (12, q))), some (Sum.inl (nI cnt))], [], (m_u3 (m_u3 (m_u3 (m_u3 (m_u3 v 13 q cnt (nI t)) 14 q cnt (v 9 a t)) 15 q cnt (v 10 a t)) 12 q 6 ((nI cnt) + 1)) 11 a t ((v 11 a t) + 1), u, c))) rfl rfl ?_
  refine G_ifn (fun h1 => ?_) (fun h1 => ?_)
  · skip
    exact G_fin rfl rfl (M_1 (by simp only [c_ho, nI_succ, if_neg h1]))
  · skip
    refine G_steps 4 (S1 := (81, [some (Sum.inr (Sum.inl (8, a))), some (Sum.inl (nI t)), some (Sum.inr (Sum.inl (12, q))), some (Sum.inl (nI cnt))], [Sum.inl (-1), Sum.inl (nI t), Sum.inr (Sum.inl (11, a))], (m_u3 (m_u3 (m_u3 (m_u3 (m_u3 v 13 q cnt (nI t)) 14 q cnt (v 9 a t)) 15 q cnt (v 10 a t)) 12 q 6 ((nI cnt) + 1)) 11 a t ((v 11 a t) + 1), u, c))) rfl rfl ?_
    refine G_step (S1 := (82, [some (Sum.inr (Sum.inl (8, a))), some (Sum.inl (nI t)), some (Sum.inr (Sum.inl (12, q))), some (Sum.inl (nI cnt))], [], (m_u3 (m_u3 (m_u3 (m_u3 (m_u3 (m_u3 v 13 q cnt (nI t)) 14 q cnt (v 9 a t)) 15 q cnt (v 10 a t)) 12 q 6 ((nI cnt) + 1)) 11 a t ((v 11 a t) + 1)) 11 a (ix (nI t)) (-1), u, c))) rfl (ib_nI (j := t) (len := n) (by omega) (by omega)) ?_
    rw [ix_nI (j := t) (by omega)]
    exact G_fin rfl rfl (M_1 (by simp only [c_ho, nI_succ, if_pos h1]))
