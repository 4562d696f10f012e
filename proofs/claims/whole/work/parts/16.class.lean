theorem ho_cnt {v : mV} {a t q cnt : Nat} : (c_ho v a (some t) q cnt) 12 q 6 = nI (cnt + 1) := by
  unfold c_ho
  dsimp only
  split
  · rw [u3_k (k' := 12) rfl, u3_k (k' := 12) rfl, u3_s]
  · rw [u3_k (k' := 12) rfl, u3_s]
def c_pf (v : mV) (z : Nat) : mV := if 24 ≤ nI z then v else m_u3 v 2 0 1 (nI (z + 1))
theorem fn_pf {n z : Nat} {v : mV} (h : F_n n v) : F_n n (c_pf v z) := by
  unfold c_pf
  split
  · exact h
  · exact fn_u3 h rfl rfl
def c_send (n : Nat) (v : mV) (a : Nat) (kd to og tg pn : Int32) (q z : Nat) : mV := c_load n (m_u3 (m_u3 (m_u3 (m_u3 (m_u3 (m_u3 (c_pf v z) 12 q 0 kd) 12 q 1 (nI a)) 12 q 2 to) 12 q 3 og) 12 q 4 tg) 12 q 5 pn) a q
theorem fn_send {n a q z : Nat} {kd to og tg pn : Int32} {v : mV} (h : F_n n v) : F_n n (c_send n v a kd to og tg pn q z) := fn_load (fn_u3 (fn_u3 (fn_u3 (fn_u3 (fn_u3 (fn_u3 (fn_pf h) rfl rfl) rfl rfl) rfl rfl) rfl rfl) rfl rfl) rfl rfl)
def c_ag1 (v : mV) (a m : Nat) : mV := if v 5 a m = 1 then (if v 7 a m + 1 = 3 then c_adopt (m_u3 v 7 a m (v 7 a m + 1)) a m 2 (v 6 a m) else m_u3 v 7 a m (v 7 a m + 1)) else v
theorem fn_ag1 {n a m : Nat} {v : mV} (h : F_n n v) : F_n n (c_ag1 v a m) := by
  unfold c_ag1
  split
  · split
    · exact fn_adopt (fn_u3 h rfl rfl)
    · exact fn_u3 h rfl rfl
  · exact h
def c_ag (v : mV) (a : Nat) : Nat → mV
  | 0 => v
  | k + 1 => c_ag1 (c_ag v a k) a k
theorem fn_ag {n a k : Nat} {v : mV} (h : F_n n v) : F_n n (c_ag v a k) := by
  induction k with
  | zero => exact h
  | succ k ih => exact fn_ag1 ih
def c_wt (v : mV) (a : Nat) : Int32 := if v 4 a 9 = -1 then 0 else if v 4 a 10 = 0 then 1 else 0
def c_ss (v : mV) (a : Nat) (o : Option Nat) : mV := match o with
  | none => v
  | some t => if c_wt v a = 0 then v else if v 5 a t = 0 then c_adopt v a t 1 (v 6 a t) else v
theorem fn_ss {n a : Nat} {o : Option Nat} {v : mV} (h : F_n n v) : F_n n (c_ss v a o) := by
  unfold c_ss
  split
  · exact h
  · split
    · exact h
    · split
      · exact fn_adopt h
      · exact h
def nx (n t : Nat) : Nat := if n ≤ t + 1 then 0 else t + 1
theorem nx_lt {n t : Nat} (hn : 0 < n) : nx n t < n := by
  unfold nx
  split <;> omega
def c_nt (n : Nat) (v : mV) (a : Nat) : Nat → Nat → Option Nat
  | 0, _ => none
  | r + 1, t => if nI (nx n t) = nI a then c_nt n v a r (nx n t) else if v 5 a (nx n t) = 2 then c_nt n v a r (nx n t) else some (nx n t)
def c_ct (v : mV) (a : Nat) (o : Option Nat) : mV := if oI o = -1 then m_u3 (m_u3 v 4 a 9 (oI o)) 4 a 10 0 else m_u3 (m_u3 (m_u3 (m_u3 v 4 a 9 (oI o)) 4 a 10 0) 4 a 7 (oI o)) 4 a 8 (v 4 a 8 + 1)
theorem fn_ct {n a : Nat} {o : Option Nat} {v : mV} (h : F_n n v) : F_n n (c_ct v a o) := by
  unfold c_ct
  split
  · exact fn_u3 (fn_u3 h rfl rfl) rfl rfl
  · exact fn_u3 (fn_u3 (fn_u3 (fn_u3 h rfl rfl) rfl rfl) rfl rfl) rfl rfl
def c_ma (v : mV) (a t : Nat) : Int32 := if nI t = nI a then 0 else if nI t = v 4 a 9 then 0 else if v 5 a t = 2 then 0 else 1
def c_ta (v : mV) (a : Nat) (x : Int32) : mV := if v 4 a 9 = -1 then v else if x = v 4 a 8 then m_u3 v 4 a 10 1 else v
theorem fn_ta {n a : Nat} {x : Int32} {v : mV} (h : F_n n v) : F_n n (c_ta v a x) := by
  unfold c_ta
  split
  · exact h
  · split
    · exact fn_u3 h rfl rfl
    · exact h
def c_in (n : Nat) (k : Int32) : Int32 := if k < 0 then 0 else if nI n ≤ k then 0 else 1
def c_has (z : Nat) (k : Int32) : Int32 := if k < 0 then 0 else if nI z ≤ k then 0 else 1
/-- the places from k on moved up by one, j of them -/
def c_to (v : mV) (g : Nat → Nat) (k : Nat) : Nat → mV
  | 0 => v
  | j + 1 => m_u3 (c_to v g k j) 3 0 (k + j) (nI (g (k + j + 1)))
theorem to_k {v : mV} {g : Nat → Nat} {k j k' : Nat} (h : Nat.beq k' 3 = false) : c_to v g k j k' = v k' := by
  induction j with
  | zero => rfl
  | succ j ih => exact (u3_k h).trans ih
theorem to_hi {v : mV} {g : Nat → Nat} {k j i : Nat} (h : k + j ≤ i) : c_to v g k j 3 0 i = v 3 0 i := by
  induction j with
  | zero => rfl
  | succ j ih =>
    unfold c_to
    rw [u3_n (by omega)]
    exact ih (by omega)
def c_tk (v : mV) (g : Nat → Nat) (k z : Nat) : mV := m_u3 (m_u3 (c_to v g k (24 - k)) 3 0 24 (nI (g k))) 2 0 1 (nI z)
theorem fn_tk {n k z : Nat} {g : Nat → Nat} {v : mV} (h : F_n n v) : F_n n (c_tk v g k z) := by
  refine fn_u3 (fn_u3 ?_ rfl rfl) rfl rfl
  have : ∀ j, F_n n (c_to v g k j) := by
    intro j
    induction j with
    | zero => exact h
    | succ j ih => exact fn_u3 ih rfl rfl
  exact this _
set_option maxRecDepth 100000 in
theorem e_load0 (d : Nat) {n L : Nat} {xs : Nat → Int32} {v u : mV} {c : Nat} {a q : Nat} (hn : n ≤ 6) (hp : c_lo (m_u3 v 12 q 6 0) a (-1) n = none) : E_v false n L xs (d + 2) 19 [Sum.inr (Sum.inl (8, a)), Sum.inr (Sum.inl (12, q))] (v, u, c) none (c_load n v a q, u, c) := by
  refine E_mk mc_19 (by decide) ?_
  refine G_steps 5 (S1 := (7, [some (Sum.inr (Sum.inl (8, a))), some (Sum.inr (Sum.inl (12, q))), none, none], [Sum.inl (-1), Sum.inr (Sum.inl (8, a))], (m_u3 v 12 q 6 0, u, c))) rfl rfl ?_
  refine G_call (y := some (Sum.inl (oI (c_lo (m_u3 v 12 q 6 0) a (-1) n)))) (M1 := (m_u3 v 12 q 6 0, u, c)) rfl rfl (e_leastSentBut _ hn) ?_
  refine G_is (S' := (10, [some (Sum.inr (Sum.inl (8, a))), some (Sum.inr (Sum.inl (12, q))), none, none], [Sum.inl (oI (c_lo (m_u3 v 12 q 6 0) a (-1) n))], (m_u3 v 12 q 6 0, u, c))) rfl ?_
  refine G_top (congrArg oI hp) ?_
  refine G_steps 3 (S1 := (13, [some (Sum.inr (Sum.inl (8, a))), some (Sum.inr (Sum.inl (12, q))), some (Sum.inl (-1)), none], [Sum.inl (-1), Sum.inr (Sum.inl (8, a))], (m_u3 v 12 q 6 0, u, c))) rfl rfl ?_
  refine G_call (y := some (Sum.inl (oI (c_lo (m_u3 v 12 q 6 0) a (-1) n)))) (M1 := (m_u3 v 12 q 6 0, u, c)) rfl rfl (e_leastSentBut _ hn) ?_
  refine G_is (S' := (16, [some (Sum.inr (Sum.inl (8, a))), some (Sum.inr (Sum.inl (12, q))), some (Sum.inl (-1)), none], [Sum.inl (oI (c_lo (m_u3 v 12 q 6 0) a (-1) n))], (m_u3 v 12 q 6 0, u, c))) rfl ?_
  refine G_top (congrArg oI hp) ?_
  refine G_steps 4 (S1 := (20, [some (Sum.inr (Sum.inl (8, a))), some (Sum.inr (Sum.inl (12, q))), some (Sum.inl (-1)), some (Sum.inl (-1))], [Sum.inr (Sum.inl (12, q)), Sum.inl (-1), Sum.inr (Sum.inl (8, a))], (m_u3 v 12 q 6 0, u, c))) rfl rfl ?_
  refine G_call (y := none) (M1 := (m_u3 v 12 q 6 0, u, c)) rfl rfl (e_handOver0 (cnt := 0) _ hn) ?_
  refine G_is (S' := (23, [some (Sum.inr (Sum.inl (8, a))), some (Sum.inr (Sum.inl (12, q))), some (Sum.inl (-1)), some (Sum.inl (-1))], [], (m_u3 v 12 q 6 0, u, c))) rfl ?_
  refine G_steps 3 (S1 := (26, [some (Sum.inr (Sum.inl (8, a))), some (Sum.inr (Sum.inl (12, q))), some (Sum.inl (-1)), some (Sum.inl (-1))], [Sum.inr (Sum.inl (12, q)), Sum.inl (-1), Sum.inr (Sum.inl (8, a))], (m_u3 v 12 q 6 0, u, c))) rfl rfl ?_
  refine G_call (y := none) (M1 := (m_u3 v 12 q 6 0, u, c)) rfl rfl (e_handOver0 (cnt := 0) _ hn) ?_
  refine G_is (S' := (29, [some (Sum.inr (Sum.inl (8, a))), some (Sum.inr (Sum.inl (12, q))), some (Sum.inl (-1)), some (Sum.inl (-1))], [], (m_u3 v 12 q 6 0, u, c))) rfl ?_
  exact G_fin rfl rfl (M_1 (by simp only [c_load, hp]))
set_option maxRecDepth 100000 in
theorem e_load1 (d : Nat) {n L : Nat} {xs : Nat → Int32} {v u : mV} {c : Nat} {a q : Nat} (hn : n ≤ 6) {f : Nat} (hp : c_lo (m_u3 v 12 q 6 0) a (-1) n = some f) (hp2 : c_lo (m_u3 v 12 q 6 0) a (nI f) n = none) : E_v false n L xs (d + 2) 19 [Sum.inr (Sum.inl (8, a)), Sum.inr (Sum.inl (12, q))] (v, u, c) none (c_load n v a q, u, c) := by
  refine E_mk mc_19 (by decide) ?_
  refine G_steps 5 (S1 := (7, [some (Sum.inr (Sum.inl (8, a))), some (Sum.inr (Sum.inl (12, q))), none, none], [Sum.inl (-1), Sum.inr (Sum.inl (8, a))], (m_u3 v 12 q 6 0, u, c))) rfl rfl ?_
  refine G_call (y := some (Sum.inl (oI (c_lo (m_u3 v 12 q 6 0) a (-1) n)))) (M1 := (m_u3 v 12 q 6 0, u, c)) rfl rfl (e_leastSentBut _ hn) ?_
  refine G_is (S' := (10, [some (Sum.inr (Sum.inl (8, a))), some (Sum.inr (Sum.inl (12, q))), none, none], [Sum.inl (oI (c_lo (m_u3 v 12 q 6 0) a (-1) n))], (m_u3 v 12 q 6 0, u, c))) rfl ?_
  refine G_top (congrArg oI hp) ?_
  refine G_steps 3 (S1 := (13, [some (Sum.inr (Sum.inl (8, a))), some (Sum.inr (Sum.inl (12, q))), some (Sum.inl (nI f)), none], [Sum.inl (nI f), Sum.inr (Sum.inl (8, a))], (m_u3 v 12 q 6 0, u, c))) rfl rfl ?_
  refine G_call (y := some (Sum.inl (oI (c_lo (m_u3 v 12 q 6 0) a (nI f) n)))) (M1 := (m_u3 v 12 q 6 0, u, c)) rfl rfl (e_leastSentBut _ hn) ?_
  refine G_is (S' := (16, [some (Sum.inr (Sum.inl (8, a))), some (Sum.inr (Sum.inl (12, q))), some (Sum.inl (nI f)), none], [Sum.inl (oI (c_lo (m_u3 v 12 q 6 0) a (nI f) n))], (m_u3 v 12 q 6 0, u, c))) rfl ?_
  refine G_top (congrArg oI hp2) ?_
  refine G_steps 4 (S1 := (20, [some (Sum.inr (Sum.inl (8, a))), some (Sum.inr (Sum.inl (12, q))), some (Sum.inl (nI f)), some (Sum.inl (-1))], [Sum.inr (Sum.inl (12, q)), Sum.inl (nI f), Sum.inr (Sum.inl (8, a))], (m_u3 v 12 q 6 0, u, c))) rfl rfl ?_
  refine G_call (y := none) (M1 := (c_ho (m_u3 v 12 q 6 0) a (some f) q 0, u, c)) rfl rfl (e_handOver _ hn (lo_lt n f hp) u3_s (by omega)) ?_
  refine G_is (S' := (23, [some (Sum.inr (Sum.inl (8, a))), some (Sum.inr (Sum.inl (12, q))), some (Sum.inl (nI f)), some (Sum.inl (-1))], [], (c_ho (m_u3 v 12 q 6 0) a (some f) q 0, u, c))) rfl ?_
  refine G_steps 3 (S1 := (26, [some (Sum.inr (Sum.inl (8, a))), some (Sum.inr (Sum.inl (12, q))), some (Sum.inl (nI f)), some (Sum.inl (-1))], [Sum.inr (Sum.inl (12, q)), Sum.inl (-1), Sum.inr (Sum.inl (8, a))], (c_ho (m_u3 v 12 q 6 0) a (some f) q 0, u, c))) rfl rfl ?_
  refine G_call (y := none) (M1 := (c_ho (m_u3 v 12 q 6 0) a (some f) q 0, u, c)) rfl rfl (e_handOver0 (cnt := 0) _ hn) ?_
  refine G_is (S' := (29, [some (Sum.inr (Sum.inl (8, a))), some (Sum.inr (Sum.inl (12, q))), some (Sum.inl (nI f)), some (Sum.inl (-1))], [], (c_ho (m_u3 v 12 q 6 0) a (some f) q 0, u, c))) rfl ?_
  exact G_fin rfl rfl (M_1 (by simp only [c_load, hp, hp2]; rfl))
set_option maxRecDepth 100000 in
theorem e_load2 (d : Nat) {n L : Nat} {xs : Nat → Int32} {v u : mV} {c : Nat} {a q : Nat} (hn : n ≤ 6) {f g : Nat} (hp : c_lo (m_u3 v 12 q 6 0) a (-1) n = some f) (hp2 : c_lo (m_u3 v 12 q 6 0) a (nI f) n = some g) : E_v false n L xs (d + 2) 19 [Sum.inr (Sum.inl (8, a)), Sum.inr (Sum.inl (12, q))] (v, u, c) none (c_load n v a q, u, c) := by
  refine E_mk mc_19 (by decide) ?_
  refine G_steps 5 (S1 := (7, [some (Sum.inr (Sum.inl (8, a))), some (Sum.inr (Sum.inl (12, q))), none, none], [Sum.inl (-1), Sum.inr (Sum.inl (8, a))], (m_u3 v 12 q 6 0, u, c))) rfl rfl ?_
  refine G_call (y := some (Sum.inl (oI (c_lo (m_u3 v 12 q 6 0) a (-1) n)))) (M1 := (m_u3 v 12 q 6 0, u, c)) rfl rfl (e_leastSentBut _ hn) ?_
  refine G_is (S' := (10, [some (Sum.inr (Sum.inl (8, a))), some (Sum.inr (Sum.inl (12, q))), none, none], [Sum.inl (oI (c_lo (m_u3 v 12 q 6 0) a (-1) n))], (m_u3 v 12 q 6 0, u, c))) rfl ?_
  refine G_top (congrArg oI hp) ?_
  refine G_steps 3 (S1 := (13, [some (Sum.inr (Sum.inl (8, a))), some (Sum.inr (Sum.inl (12, q))), some (Sum.inl (nI f)), none], [Sum.inl (nI f), Sum.inr (Sum.inl (8, a))], (m_u3 v 12 q 6 0, u, c))) rfl rfl ?_
  refine G_call (y := some (Sum.inl (oI (c_lo (m_u3 v 12 q 6 0) a (nI f) n)))) (M1 := (m_u3 v 12 q 6 0, u, c)) rfl rfl (e_leastSentBut _ hn) ?_
  refine G_is (S' := (16, [some (Sum.inr (Sum.inl (8, a))), some (Sum.inr (Sum.inl (12, q))), some (Sum.inl (nI f)), none], [Sum.inl (oI (c_lo (m_u3 v 12 q 6 0) a (nI f) n))], (m_u3 v 12 q 6 0, u, c))) rfl ?_
  refine G_top (congrArg oI hp2) ?_
  refine G_steps 4 (S1 := (20, [some (Sum.inr (Sum.inl (8, a))), some (Sum.inr (Sum.inl (12, q))), some (Sum.inl (nI f)), some (Sum.inl (nI g))], [Sum.inr (Sum.inl (12, q)), Sum.inl (nI f), Sum.inr (Sum.inl (8, a))], (m_u3 v 12 q 6 0, u, c))) rfl rfl ?_
  refine G_call (y := none) (M1 := (c_ho (m_u3 v 12 q 6 0) a (some f) q 0, u, c)) rfl rfl (e_handOver _ hn (lo_lt n f hp) u3_s (by omega)) ?_
  refine G_is (S' := (23, [some (Sum.inr (Sum.inl (8, a))), some (Sum.inr (Sum.inl (12, q))), some (Sum.inl (nI f)), some (Sum.inl (nI g))], [], (c_ho (m_u3 v 12 q 6 0) a (some f) q 0, u, c))) rfl ?_
  refine G_steps 3 (S1 := (26, [some (Sum.inr (Sum.inl (8, a))), some (Sum.inr (Sum.inl (12, q))), some (Sum.inl (nI f)), some (Sum.inl (nI g))], [Sum.inr (Sum.inl (12, q)), Sum.inl (nI g), Sum.inr (Sum.inl (8, a))], (c_ho (m_u3 v 12 q 6 0) a (some f) q 0, u, c))) rfl rfl ?_
  refine G_call (y := none) (M1 := (c_ho (c_ho (m_u3 v 12 q 6 0) a (some f) q 0) a (some g) q 1, u, c)) rfl rfl (e_handOver _ hn (lo_lt n g hp2) ho_cnt (by omega)) ?_
  refine G_is (S' := (29, [some (Sum.inr (Sum.inl (8, a))), some (Sum.inr (Sum.inl (12, q))), some (Sum.inl (nI f)), some (Sum.inl (nI g))], [], (c_ho (c_ho (m_u3 v 12 q 6 0) a (some f) q 0) a (some g) q 1, u, c))) rfl ?_
  exact G_fin rfl rfl (M_1 (by simp only [c_load, hp, hp2]))
theorem e_load (d : Nat) {n L : Nat} {xs : Nat → Int32} {v u : mV} {c : Nat} {a q : Nat} (hn : n ≤ 6) : E_v false n L xs (d + 2) 19 [Sum.inr (Sum.inl (8, a)), Sum.inr (Sum.inl (12, q))] (v, u, c) none (c_load n v a q, u, c) := by
  cases hp : c_lo (m_u3 v 12 q 6 0) a (-1) n with
  | none => exact e_load0 d hn hp
  | some f =>
    cases hp2 : c_lo (m_u3 v 12 q 6 0) a (nI f) n with
    | none => exact e_load1 d hn hp hp2
    | some g => exact e_load2 d hn hp hp2
set_option maxRecDepth 100000 in
theorem e_placeForNext (d : Nat) {n L : Nat} {xs : Nat → Int32} {v u : mV} {c : Nat} {z q : Nat} (hn : n ≤ 6) (hc : c = (K_T n).length) (hz : v 2 0 1 = nI z) (hz2 : z ≤ 24) (hq : v 3 0 z = nI q) (hq2 : q < 25) : E_v false n L xs (d + 1) 18 [Sum.inr (Sum.inl (2, 0))] (v, u, c) (some (Sum.inr (Sum.inl (12, q)))) (c_pf v z, u, c) := by
  refine E_mk mc_18 (by decide) ?_
  refine G_steps 4 (S1 := (8, [some (Sum.inr (Sum.inl (2, 0))), none], [Sum.inl (v 2 0 1), Sum.inr (Sum.inl (3, 0))], (v, u, c))) rfl rfl ?_
  refine G_top hz ?_
  refine G_step (S1 := (9, [some (Sum.inr (Sum.inl (2, 0))), none], [Sum.inr (Sum.inl (12, ix (v 3 0 (ix (nI z)))))], (v, u, c))) rfl (ald_m hn (by omega) hq hq2 hc) ?_
  rw [ix_nI (j := z) (by omega), hq, ix_nI (j := q) (by omega)]
  refine G_steps 3 (S1 := (14, [some (Sum.inr (Sum.inl (2, 0))), some (Sum.inr (Sum.inl (12, q)))], [Sum.inl (v 2 0 1)], (v, u, c))) rfl rfl ?_
  refine G_top hz ?_
  refine G_steps 2 (S1 := (if 24 ≤ nI z then 29 else 19, [some (Sum.inr (Sum.inl (2, 0))), some (Sum.inr (Sum.inl (12, q)))], [], (v, u, c))) rfl rfl ?_
  refine G_if (fun h1 => ?_) (fun h1 => ?_)
  · skip
    refine G_steps 1 (S1 := (30, [some (Sum.inr (Sum.inl (2, 0))), some (Sum.inr (Sum.inl (12, q)))], [Sum.inr (Sum.inl (12, q))], (v, u, c))) rfl rfl ?_
    exact G_fin rfl rfl (M_1 (by simp only [c_pf, if_pos h1]))
  · skip
    refine G_steps 3 (S1 := (24, [some (Sum.inr (Sum.inl (2, 0))), some (Sum.inr (Sum.inl (12, q)))], [Sum.inl (v 2 0 1), Sum.inr (Sum.inl (2, 0))], (v, u, c))) rfl rfl ?_
    refine G_top hz ?_
    refine G_steps 2 (S1 := (26, [some (Sum.inr (Sum.inl (2, 0))), some (Sum.inr (Sum.inl (12, q)))], [Sum.inl ((nI z) + 1), Sum.inr (Sum.inl (2, 0))], (v, u, c))) rfl rfl ?_
    refine G_top ((nI_succ z).symm) ?_
    refine G_steps 2 (S1 := (30, [some (Sum.inr (Sum.inl (2, 0))), some (Sum.inr (Sum.inl (12, q)))], [Sum.inr (Sum.inl (12, q))], (m_u3 v 2 0 1 (nI (z + 1)), u, c))) rfl rfl ?_
    exact G_fin rfl rfl (M_1 (by simp only [c_pf, if_neg h1]))
set_option maxRecDepth 100000 in
theorem e_send (d : Nat) {n L : Nat} {xs : Nat → Int32} {v u : mV} {c : Nat} {a q z : Nat} {kd to og tg pn : Int32} (hn : n ≤ 6) (hc : c = (K_T n).length) (hf : F_n n v) (ha : a < n) (hz : v 2 0 1 = nI z) (hz2 : z ≤ 24) (hq : v 3 0 z = nI q) (hq2 : q < 25) : E_v false n L xs (d + 3) 17 [Sum.inr (Sum.inl (0, 0)), Sum.inl kd, Sum.inr (Sum.inl (4, a)), Sum.inl to, Sum.inl og, Sum.inl tg, Sum.inl pn] (v, u, c) none (c_send n v a kd to og tg pn q z, u, c) := by
  refine E_mk mc_17 (by decide) ?_
  refine G_steps 2 (S1 := (4, [some (Sum.inr (Sum.inl (0, 0))), some (Sum.inl kd), some (Sum.inr (Sum.inl (4, a))), some (Sum.inl to), some (Sum.inl og), some (Sum.inl tg), some (Sum.inl pn), none], [Sum.inr (Sum.inl (2, 0))], (v, u, c))) rfl rfl ?_
  refine G_call (y := some (Sum.inr (Sum.inl (12, q)))) (M1 := (c_pf v z, u, c)) rfl rfl (e_placeForNext _ hn hc hz hz2 hq hq2) ?_
  refine G_is (S' := (7, [some (Sum.inr (Sum.inl (0, 0))), some (Sum.inl kd), some (Sum.inr (Sum.inl (4, a))), some (Sum.inl to), some (Sum.inl og), some (Sum.inl tg), some (Sum.inl pn), none], [Sum.inr (Sum.inl (12, q))], (c_pf v z, u, c))) rfl ?_
  refine G_steps 7 (S1 := (21, [some (Sum.inr (Sum.inl (0, 0))), some (Sum.inl kd), some (Sum.inr (Sum.inl (4, a))), some (Sum.inl to), some (Sum.inl og), some (Sum.inl tg), some (Sum.inl pn), some (Sum.inr (Sum.inl (12, q)))], [Sum.inl ((c_pf v z) 4 a 0), Sum.inr (Sum.inl (12, q))], (m_u3 (c_pf v z) 12 q 0 kd, u, c))) rfl rfl ?_
  refine G_top (((fn_pf hf).2 a (by omega)).1) ?_
  refine G_steps 16 (S1 := (57, [some (Sum.inr (Sum.inl (0, 0))), some (Sum.inl kd), some (Sum.inr (Sum.inl (4, a))), some (Sum.inl to), some (Sum.inl og), some (Sum.inl tg), some (Sum.inl pn), some (Sum.inr (Sum.inl (12, q)))], [Sum.inr (Sum.inl (12, q)), Sum.inr (Sum.inl (8, a))], (m_u3 (m_u3 (m_u3 (m_u3 (m_u3 (m_u3 (c_pf v z) 12 q 0 kd) 12 q 1 (nI a)) 12 q 2 to) 12 q 3 og) 12 q 4 tg) 12 q 5 pn, u, c))) rfl rfl ?_
  refine G_call (y := none) (M1 := (c_load n (m_u3 (m_u3 (m_u3 (m_u3 (m_u3 (m_u3 (c_pf v z) 12 q 0 kd) 12 q 1 (nI a)) 12 q 2 to) 12 q 3 og) 12 q 4 tg) 12 q 5 pn) a q, u, c)) rfl rfl (e_load _ hn) ?_
  refine G_is (S' := (60, [some (Sum.inr (Sum.inl (0, 0))), some (Sum.inl kd), some (Sum.inr (Sum.inl (4, a))), some (Sum.inl to), some (Sum.inl og), some (Sum.inl tg), some (Sum.inl pn), some (Sum.inr (Sum.inl (12, q)))], [], (c_load n (m_u3 (m_u3 (m_u3 (m_u3 (m_u3 (m_u3 (c_pf v z) 12 q 0 kd) 12 q 1 (nI a)) 12 q 2 to) 12 q 3 og) 12 q 4 tg) 12 q 5 pn) a q, u, c))) rfl ?_
  exact G_fin rfl rfl (M_1 rfl)
set_option maxRecDepth 100000 in
theorem e_ageSuspects (d : Nat) {n L : Nat} {xs : Nat → Int32} {v u : mV} {c : Nat} {a : Nat} (hn : n ≤ 6) (hf : F_n n v) (ha : a < n) : E_v false n L xs (d + 3) 9 [Sum.inr (Sum.inl (4, a))] (v, u, c) none (c_ag v a n, u, c) := by
  refine E_mk mc_9 (by decide) ?_
  refine G_steps 2 (S1 := (2, [some (Sum.inr (Sum.inl (4, a))), some (Sum.inl (nI 0))], [], (c_ag v a 0, u, c))) rfl rfl ?_
  refine G_loop (S := fun k => (2, [some (Sum.inr (Sum.inl (4, a))), some (Sum.inl (nI k))], [], (c_ag v a k, u, c))) (N := n) (fun k hk K => ?_) ?_
  · skip
    refine G_steps 3 (S1 := (7, [some (Sum.inr (Sum.inl (4, a))), some (Sum.inl (nI k))], [Sum.inl ((c_ag v a k) 4 a 1), Sum.inl (nI k)], (c_ag v a k, u, c))) rfl rfl ?_
    refine G_top (((fn_ag (k := k) hf).2 a (by omega)).2) ?_
    refine G_steps 1 (S1 := (if nI n ≤ nI k then 58 else 10, [some (Sum.inr (Sum.inl (4, a))), some (Sum.inl (nI k))], [], (c_ag v a k, u, c))) rfl rfl ?_
    refine G_iF (fun z => absurd ((nI_le' (by omega) (by omega)).mp z) (by omega)) ?_
    refine G_steps 3 (S1 := (15, [some (Sum.inr (Sum.inl (4, a))), some (Sum.inl (nI k))], [Sum.inl (nI k), Sum.inr (Sum.inl (5, a))], (c_ag v a k, u, c))) rfl rfl ?_
    refine G_step (S1 := (16, [some (Sum.inr (Sum.inl (4, a))), some (Sum.inl (nI k))], [Sum.inl ((c_ag v a k) 5 a (ix (nI k)))], (c_ag v a k, u, c))) rfl (ib_nI (j := k) (len := n) (by omega) (by omega)) ?_
    rw [ix_nI (j := k) (by omega)]
    refine G_steps 2 (S1 := (if ¬ (c_ag v a k) 5 a k = 1 then 52 else 20, [some (Sum.inr (Sum.inl (4, a))), some (Sum.inl (nI k))], [], (c_ag v a k, u, c))) rfl rfl ?_
    refine G_ifn (fun h1 => ?_) (fun h1 => ?_)
    · skip
      refine G_steps 2 (S1 := (2, [some (Sum.inr (Sum.inl (4, a))), some (Sum.inl ((nI k) + 1))], [], (c_ag v a k, u, c))) rfl rfl ?_
      exact G_is (by simp only [c_ag, c_ag1, nI_succ, if_neg h1]) K
    · skip
      refine G_steps 4 (S1 := (26, [some (Sum.inr (Sum.inl (4, a))), some (Sum.inl (nI k))], [Sum.inl (nI k), Sum.inr (Sum.inl (7, a)), Sum.inl (nI k), Sum.inr (Sum.inl (7, a))], (c_ag v a k, u, c))) rfl rfl ?_
      refine G_step (S1 := (27, [some (Sum.inr (Sum.inl (4, a))), some (Sum.inl (nI k))], [Sum.inl ((c_ag v a k) 7 a (ix (nI k))), Sum.inl (nI k), Sum.inr (Sum.inl (7, a))], (c_ag v a k, u, c))) rfl (ib_nI (j := k) (len := n) (by omega) (by omega)) ?_
      rw [ix_nI (j := k) (by omega)]
      refine G_steps 2 (S1 := (29, [some (Sum.inr (Sum.inl (4, a))), some (Sum.inl (nI k))], [Sum.inl (((c_ag v a k) 7 a k) + 1), Sum.inl (nI k), Sum.inr (Sum.inl (7, a))], (c_ag v a k, u, c))) rfl rfl ?_
      refine G_step (S1 := (30, [some (Sum.inr (Sum.inl (4, a))), some (Sum.inl (nI k))], [], (m_u3 (c_ag v a k) 7 a (ix (nI k)) (((c_ag v a k) 7 a k) + 1), u, c))) rfl (ib_nI (j := k) (len := n) (by omega) (by omega)) ?_
      rw [ix_nI (j := k) (by omega)]
      refine G_steps 3 (S1 := (35, [some (Sum.inr (Sum.inl (4, a))), some (Sum.inl (nI k))], [Sum.inl (nI k), Sum.inr (Sum.inl (7, a))], (m_u3 (c_ag v a k) 7 a k (((c_ag v a k) 7 a k) + 1), u, c))) rfl rfl ?_
      refine G_step (S1 := (36, [some (Sum.inr (Sum.inl (4, a))), some (Sum.inl (nI k))], [Sum.inl ((m_u3 (c_ag v a k) 7 a k (((c_ag v a k) 7 a k) + 1)) 7 a (ix (nI k)))], (m_u3 (c_ag v a k) 7 a k (((c_ag v a k) 7 a k) + 1), u, c))) rfl (ib_nI (j := k) (len := n) (by omega) (by omega)) ?_
      rw [ix_nI (j := k) (by omega)]
      refine G_top u3_s ?_
      refine G_steps 2 (S1 := (if ¬ ((c_ag v a k) 7 a k) + 1 = 3 then 52 else 40, [some (Sum.inr (Sum.inl (4, a))), some (Sum.inl (nI k))], [], (m_u3 (c_ag v a k) 7 a k (((c_ag v a k) 7 a k) + 1), u, c))) rfl rfl ?_
      refine G_ifn (fun h2 => ?_) (fun h2 => ?_)
      · skip
        refine G_steps 2 (S1 := (2, [some (Sum.inr (Sum.inl (4, a))), some (Sum.inl ((nI k) + 1))], [], (m_u3 (c_ag v a k) 7 a k (((c_ag v a k) 7 a k) + 1), u, c))) rfl rfl ?_
        exact G_is (by simp only [c_ag, c_ag1, nI_succ, if_pos h1, if_neg h2]) K
      · skip
        refine G_steps 6 (S1 := (48, [some (Sum.inr (Sum.inl (4, a))), some (Sum.inl (nI k))], [Sum.inl (nI k), Sum.inr (Sum.inl (6, a)), Sum.inl 2, Sum.inl (nI k), Sum.inr (Sum.inl (4, a))], (m_u3 (c_ag v a k) 7 a k (((c_ag v a k) 7 a k) + 1), u, c))) rfl rfl ?_
        refine G_step (S1 := (49, [some (Sum.inr (Sum.inl (4, a))), some (Sum.inl (nI k))], [Sum.inl ((c_ag v a k) 6 a (ix (nI k))), Sum.inl 2, Sum.inl (nI k), Sum.inr (Sum.inl (4, a))], (m_u3 (c_ag v a k) 7 a k (((c_ag v a k) 7 a k) + 1), u, c))) rfl (ib_nI (j := k) (len := n) (by omega) (by omega)) ?_
        rw [ix_nI (j := k) (by omega)]
        refine G_call (y := none) (M1 := (c_adopt (m_u3 (c_ag v a k) 7 a k (((c_ag v a k) 7 a k) + 1)) a k 2 ((c_ag v a k) 6 a k), u, c)) rfl rfl (e_adopt _ hn (by omega)) ?_
        refine G_is (S' := (52, [some (Sum.inr (Sum.inl (4, a))), some (Sum.inl (nI k))], [], (c_adopt (m_u3 (c_ag v a k) 7 a k (((c_ag v a k) 7 a k) + 1)) a k 2 ((c_ag v a k) 6 a k), u, c))) rfl ?_
        refine G_steps 2 (S1 := (2, [some (Sum.inr (Sum.inl (4, a))), some (Sum.inl ((nI k) + 1))], [], (c_adopt (m_u3 (c_ag v a k) 7 a k (((c_ag v a k) 7 a k) + 1)) a k 2 ((c_ag v a k) 6 a k), u, c))) rfl rfl ?_
        exact G_is (by simp only [c_ag, c_ag1, nI_succ, if_pos h1, if_pos h2]) K
  · skip
    refine G_steps 3 (S1 := (7, [some (Sum.inr (Sum.inl (4, a))), some (Sum.inl (nI n))], [Sum.inl ((c_ag v a n) 4 a 1), Sum.inl (nI n)], (c_ag v a n, u, c))) rfl rfl ?_
    refine G_top (((fn_ag (k := n) hf).2 a (by omega)).2) ?_
    refine G_steps 1 (S1 := (if nI n ≤ nI n then 58 else 10, [some (Sum.inr (Sum.inl (4, a))), some (Sum.inl (nI n))], [], (c_ag v a n, u, c))) rfl rfl ?_
    refine G_iT ((nI_le' (by omega) (by omega)).mpr (Nat.le_refl _)) ?_
    exact G_fin rfl rfl rfl
set_option maxRecDepth 100000 in
theorem e_waits (d : Nat) {n L : Nat} {xs : Nat → Int32} {v u : mV} {c : Nat} {a : Nat} : E_v false n L xs (d + 1) 13 [Sum.inr (Sum.inl (4, a))] (v, u, c) (some (Sum.inl (c_wt v a))) (v, u, c) := by
  refine E_mk mc_13 (by decide) ?_
  refine G_steps 4 (S1 := (if v 4 a 9 = (-1) then 19 else 8, [some (Sum.inr (Sum.inl (4, a)))], [], (v, u, c))) rfl rfl ?_
  refine G_if (fun h1 => ?_) (fun h1 => ?_)
  · skip
    refine G_steps 1 (S1 := (20, [some (Sum.inr (Sum.inl (4, a)))], [Sum.inl 0], (v, u, c))) rfl rfl ?_
    exact G_fin rfl (by simp only [c_wt, if_pos h1]) rfl
  · skip
    refine G_steps 3 (S1 := (if ¬ v 4 a 10 = 0 then 19 else 15, [some (Sum.inr (Sum.inl (4, a)))], [], (v, u, c))) rfl rfl ?_
    refine G_ifn (fun h2 => ?_) (fun h2 => ?_)
    · skip
      refine G_steps 1 (S1 := (20, [some (Sum.inr (Sum.inl (4, a)))], [Sum.inl 0], (v, u, c))) rfl rfl ?_
      exact G_fin rfl (by simp only [c_wt, if_neg h1, if_neg h2]) rfl
    · skip
      refine G_steps 2 (S1 := (20, [some (Sum.inr (Sum.inl (4, a)))], [Sum.inl 1], (v, u, c))) rfl rfl ?_
      exact G_fin rfl (by simp only [c_wt, if_neg h1, if_pos h2]) rfl
set_option maxRecDepth 100000 in
theorem e_suspect0 (d : Nat) {n L : Nat} {xs : Nat → Int32} {v u : mV} {c : Nat} {a : Nat} (hto : v 4 a 9 = oI none) : E_v false n L xs (d + 3) 12 [Sum.inr (Sum.inl (4, a))] (v, u, c) none (c_ss v a none, u, c) := by
  refine E_mk mc_12 (by decide) ?_
  refine G_steps 1 (S1 := (1, [some (Sum.inr (Sum.inl (4, a)))], [Sum.inr (Sum.inl (4, a))], (v, u, c))) rfl rfl ?_
  refine G_call (y := some (Sum.inl (c_wt v a))) (M1 := (v, u, c)) rfl rfl (e_waits _) ?_
  refine G_is (S' := (4, [some (Sum.inr (Sum.inl (4, a)))], [Sum.inl (c_wt v a)], (v, u, c))) rfl ?_
  refine G_steps 1 (S1 := (if c_wt v a = 0 then 37 else 7, [some (Sum.inr (Sum.inl (4, a)))], [], (v, u, c))) rfl rfl ?_
  refine G_iT (if_pos hto) ?_
  exact G_fin rfl rfl rfl
set_option maxRecDepth 100000 in
theorem e_suspect1 (d : Nat) {n L : Nat} {xs : Nat → Int32} {v u : mV} {c : Nat} {a t : Nat} (hn : n ≤ 6) (ht : t < n) (hto : v 4 a 9 = oI (some t)) : E_v false n L xs (d + 3) 12 [Sum.inr (Sum.inl (4, a))] (v, u, c) none (c_ss v a (some t), u, c) := by
  refine E_mk mc_12 (by decide) ?_
  refine G_steps 1 (S1 := (1, [some (Sum.inr (Sum.inl (4, a)))], [Sum.inr (Sum.inl (4, a))], (v, u, c))) rfl rfl ?_
  refine G_call (y := some (Sum.inl (c_wt v a))) (M1 := (v, u, c)) rfl rfl (e_waits _) ?_
  refine G_is (S' := (4, [some (Sum.inr (Sum.inl (4, a)))], [Sum.inl (c_wt v a)], (v, u, c))) rfl ?_
  refine G_steps 1 (S1 := (if c_wt v a = 0 then 37 else 7, [some (Sum.inr (Sum.inl (4, a)))], [], (v, u, c))) rfl rfl ?_
  refine G_if (fun h1 => ?_) (fun h1 => ?_)
  · skip
    exact G_fin rfl rfl (M_1 (by simp only [c_ss, if_pos h1]))
  · skip
    refine G_steps 4 (S1 := (15, [some (Sum.inr (Sum.inl (4, a)))], [Sum.inl (v 4 a 9), Sum.inr (Sum.inl (5, a))], (v, u, c))) rfl rfl ?_
    refine G_top hto ?_
    refine G_step (S1 := (16, [some (Sum.inr (Sum.inl (4, a)))], [Sum.inl (v 5 a (ix (nI t)))], (v, u, c))) rfl (ib_nI (j := t) (len := n) (by omega) (by omega)) ?_
    rw [ix_nI (j := t) (by omega)]
    refine G_steps 1 (S1 := (if ¬ v 5 a t = 0 then 37 else 19, [some (Sum.inr (Sum.inl (4, a)))], [], (v, u, c))) rfl rfl ?_
    refine G_ifn (fun h2 => ?_) (fun h2 => ?_)
    · skip
      exact G_fin rfl rfl (M_1 (by simp only [c_ss, if_neg h1, if_neg h2]))
    · skip
      refine G_steps 3 (S1 := (24, [some (Sum.inr (Sum.inl (4, a)))], [Sum.inl (v 4 a 9), Sum.inr (Sum.inl (4, a))], (v, u, c))) rfl rfl ?_
      refine G_top hto ?_
      refine G_steps 5 (S1 := (33, [some (Sum.inr (Sum.inl (4, a)))], [Sum.inl (v 4 a 9), Sum.inr (Sum.inl (6, a)), Sum.inl 1, Sum.inl (nI t), Sum.inr (Sum.inl (4, a))], (v, u, c))) rfl rfl ?_
      refine G_top hto ?_
      refine G_step (S1 := (34, [some (Sum.inr (Sum.inl (4, a)))], [Sum.inl (v 6 a (ix (nI t))), Sum.inl 1, Sum.inl (nI t), Sum.inr (Sum.inl (4, a))], (v, u, c))) rfl (ib_nI (j := t) (len := n) (by omega) (by omega)) ?_
      rw [ix_nI (j := t) (by omega)]
      refine G_call (y := none) (M1 := (c_adopt v a t 1 (v 6 a t), u, c)) rfl rfl (e_adopt _ hn (by omega)) ?_
      refine G_is (S' := (37, [some (Sum.inr (Sum.inl (4, a)))], [], (c_adopt v a t 1 (v 6 a t), u, c))) rfl ?_
      exact G_fin rfl rfl (M_1 (by simp only [c_ss, if_neg h1, if_pos h2]))
theorem e_suspect (d : Nat) {n L : Nat} {xs : Nat → Int32} {v u : mV} {c : Nat} {a : Nat} {o : Option Nat} (hn : n ≤ 6) (hto : v 4 a 9 = oI o) (ho : ∀ t, o = some t → t < n) : E_v false n L xs (d + 3) 12 [Sum.inr (Sum.inl (4, a))] (v, u, c) none (c_ss v a o, u, c) := by
  cases o with
  | none => exact e_suspect0 d hto
  | some t => exact e_suspect1 d hn (ho t rfl) hto
set_option maxRecDepth 100000 in
theorem e_nextAfter (d : Nat) {n L : Nat} {xs : Nat → Int32} {v u : mV} {c : Nat} {a t : Nat} (hn : n ≤ 6) (hf : F_n n v) (ha : a < n) (ht : t < n) : E_v false n L xs (d + 1) 16 [Sum.inr (Sum.inl (4, a)), Sum.inl (nI t)] (v, u, c) (some (Sum.inl (nI (nx n t)))) (v, u, c) := by
  refine E_mk mc_16 (by decide) ?_
  refine G_steps 3 (S1 := (3, [some (Sum.inr (Sum.inl (4, a))), some (Sum.inl (nI t))], [Sum.inl ((nI t) + 1)], (v, u, c))) rfl rfl ?_
  refine G_top ((nI_succ t).symm) ?_
  refine G_steps 2 (S1 := (7, [some (Sum.inr (Sum.inl (4, a))), some (Sum.inl (nI t))], [Sum.inl (v 4 a 1), Sum.inl (nI (t + 1))], (v, u, c))) rfl rfl ?_
  refine G_top ((hf.2 a (by omega)).2) ?_
  refine G_steps 1 (S1 := (if nI n ≤ nI (t + 1) then 16 else 10, [some (Sum.inr (Sum.inl (4, a))), some (Sum.inl (nI t))], [], (v, u, c))) rfl rfl ?_
  refine G_if (fun h1 => ?_) (fun h1 => ?_)
  · skip
    refine G_steps 1 (S1 := (17, [some (Sum.inr (Sum.inl (4, a))), some (Sum.inl (nI t))], [Sum.inl 0], (v, u, c))) rfl rfl ?_
    exact G_fin rfl (by simp only [nx, if_pos (show n ≤ t + 1 from (nI_le' (by omega) (by omega)).mp h1)]; rfl) rfl
  · skip
    refine G_steps 3 (S1 := (13, [some (Sum.inr (Sum.inl (4, a))), some (Sum.inl (nI t))], [Sum.inl ((nI t) + 1)], (v, u, c))) rfl rfl ?_
    refine G_top ((nI_succ t).symm) ?_
    refine G_steps 1 (S1 := (17, [some (Sum.inr (Sum.inl (4, a))), some (Sum.inl (nI t))], [Sum.inl (nI (t + 1))], (v, u, c))) rfl rfl ?_
    exact G_fin rfl (by simp only [nx, if_neg (show ¬ n ≤ t + 1 from fun z => h1 ((nI_le' (by omega) (by omega)).mpr z))]) rfl
set_option maxRecDepth 100000 in
theorem nt_loop (d : Nat) {n L : Nat} {xs : Nat → Int32} {v u : mV} {c : Nat} {a t0 : Nat} (hn : n ≤ 6) (hn0 : 0 < n) (hf : F_n n v) (ha : a < n) : ∀ (r t k : Nat), t < n → k + r = n + 1 → c_nt n v a r t = c_nt n v a n t0 → G_o false n L xs (E_v false n L xs (d + 1)) (l_k cd_15) (fun S1 => r_F (l_k cd_15) S1 = some (true, some (Sum.inl (oI (c_nt n v a n t0))), (v, u, c))) (7, [some (Sum.inr (Sum.inl (4, a))), some (Sum.inl (nI t)), some (Sum.inl (nI k))], [], (v, u, c)) := by
  intro r
  induction r with
  | zero =>
    intro t k ht hk hr
    refine G_steps 3 (S1 := (12, [some (Sum.inr (Sum.inl (4, a))), some (Sum.inl (nI t)), some (Sum.inl (nI k))], [Sum.inl (v 4 a 1), Sum.inl (nI k)], (v, u, c))) rfl rfl ?_
    refine G_top ((hf.2 a (by omega)).2) ?_
    refine G_steps 1 (S1 := (if nI n < nI k then 47 else 15, [some (Sum.inr (Sum.inl (4, a))), some (Sum.inl (nI t)), some (Sum.inl (nI k))], [], (v, u, c))) rfl rfl ?_
    refine G_iT ((nI_lt' (by omega) (by omega)).mpr (by omega)) ?_
    refine G_steps 1 (S1 := (48, [some (Sum.inr (Sum.inl (4, a))), some (Sum.inl (nI t)), some (Sum.inl (nI k))], [Sum.inl (-1)], (v, u, c))) rfl rfl ?_
    exact G_fin rfl (by rw [← hr]; rfl) rfl
  | succ r ih =>
    intro t k ht hk hr
    have hx := nx_lt (t := t) hn0
    refine G_steps 3 (S1 := (12, [some (Sum.inr (Sum.inl (4, a))), some (Sum.inl (nI t)), some (Sum.inl (nI k))], [Sum.inl (v 4 a 1), Sum.inl (nI k)], (v, u, c))) rfl rfl ?_
    refine G_top ((hf.2 a (by omega)).2) ?_
    refine G_steps 1 (S1 := (if nI n < nI k then 47 else 15, [some (Sum.inr (Sum.inl (4, a))), some (Sum.inl (nI t)), some (Sum.inl (nI k))], [], (v, u, c))) rfl rfl ?_
    refine G_iF (fun z => absurd ((nI_lt' (by omega) (by omega)).mp z) (by omega)) ?_
    refine G_steps 2 (S1 := (17, [some (Sum.inr (Sum.inl (4, a))), some (Sum.inl (nI t)), some (Sum.inl (nI k))], [Sum.inl (nI t), Sum.inr (Sum.inl (4, a))], (v, u, c))) rfl rfl ?_
    refine G_call (y := some (Sum.inl (nI (nx n t)))) (M1 := (v, u, c)) rfl rfl (e_nextAfter _ hn hf (by omega) (by omega)) ?_
    refine G_is (S' := (20, [some (Sum.inr (Sum.inl (4, a))), some (Sum.inl (nI t)), some (Sum.inl (nI k))], [Sum.inl (nI (nx n t))], (v, u, c))) rfl ?_
    refine G_steps 4 (S1 := (26, [some (Sum.inr (Sum.inl (4, a))), some (Sum.inl (nI (nx n t))), some (Sum.inl (nI k))], [Sum.inl (v 4 a 0), Sum.inl (nI (nx n t))], (v, u, c))) rfl rfl ?_
    refine G_top ((hf.2 a (by omega)).1) ?_
    refine G_steps 1 (S1 := (if nI (nx n t) = nI a then 41 else 29, [some (Sum.inr (Sum.inl (4, a))), some (Sum.inl (nI (nx n t))), some (Sum.inl (nI k))], [], (v, u, c))) rfl rfl ?_
    refine G_if (fun h1 => ?_) (fun h1 => ?_)
    · skip
      refine G_steps 2 (S1 := (7, [some (Sum.inr (Sum.inl (4, a))), some (Sum.inl (nI (nx n t))), some (Sum.inl ((nI k) + 1))], [], (v, u, c))) rfl rfl ?_
      rw [← nI_succ]
      exact ih (nx n t) (k + 1) hx (by omega) (by rw [← hr]; simp only [c_nt, if_pos h1])
    · skip
      refine G_steps 3 (S1 := (34, [some (Sum.inr (Sum.inl (4, a))), some (Sum.inl (nI (nx n t))), some (Sum.inl (nI k))], [Sum.inl (nI (nx n t)), Sum.inr (Sum.inl (5, a))], (v, u, c))) rfl rfl ?_
      refine G_step (S1 := (35, [some (Sum.inr (Sum.inl (4, a))), some (Sum.inl (nI (nx n t))), some (Sum.inl (nI k))], [Sum.inl (v 5 a (ix (nI (nx n t))))], (v, u, c))) rfl (ib_nI (j := (nx n t)) (len := n) (by omega) (by omega)) ?_
      rw [ix_nI (j := (nx n t)) (by omega)]
      refine G_steps 2 (S1 := (if v 5 a (nx n t) = 2 then 41 else 39, [some (Sum.inr (Sum.inl (4, a))), some (Sum.inl (nI (nx n t))), some (Sum.inl (nI k))], [], (v, u, c))) rfl rfl ?_
      refine G_if (fun h2 => ?_) (fun h2 => ?_)
      · skip
        refine G_steps 2 (S1 := (7, [some (Sum.inr (Sum.inl (4, a))), some (Sum.inl (nI (nx n t))), some (Sum.inl ((nI k) + 1))], [], (v, u, c))) rfl rfl ?_
        rw [← nI_succ]
        exact ih (nx n t) (k + 1) hx (by omega) (by rw [← hr]; simp only [c_nt, if_neg h1, if_pos h2])
      · skip
        refine G_steps 1 (S1 := (40, [some (Sum.inr (Sum.inl (4, a))), some (Sum.inl (nI (nx n t))), some (Sum.inl (nI k))], [Sum.inl (nI (nx n t))], (v, u, c))) rfl rfl ?_
        exact G_fin rfl (by rw [← hr]; simp only [c_nt, oI, if_neg h1, if_neg h2]) rfl
set_option maxRecDepth 100000 in
theorem e_nextTarget (d : Nat) {n L : Nat} {xs : Nat → Int32} {v u : mV} {c : Nat} {a t : Nat} (hn : n ≤ 6) (hf : F_n n v) (ha : a < n) (ht : t < n) (hl : v 4 a 7 = nI t) : E_v false n L xs (d + 2) 15 [Sum.inr (Sum.inl (4, a))] (v, u, c) (some (Sum.inl (oI (c_nt n v a n t)))) (v, u, c) := by
  refine E_mk mc_15 (by decide) ?_
  refine G_steps 2 (S1 := (4, [some (Sum.inr (Sum.inl (4, a))), none, none], [Sum.inl (v 4 a 7)], (v, u, c))) rfl rfl ?_
  refine G_top hl ?_
  refine G_steps 3 (S1 := (7, [some (Sum.inr (Sum.inl (4, a))), some (Sum.inl (nI t)), some (Sum.inl (nI 1))], [], (v, u, c))) rfl rfl ?_
  exact nt_loop d hn (by omega) hf ha n t 1 ht (by omega) rfl
set_option maxRecDepth 100000 in
theorem e_chooseTarget (d : Nat) {n L : Nat} {xs : Nat → Int32} {v u : mV} {c : Nat} {a t : Nat} (hn : n ≤ 6) (hf : F_n n v) (ha : a < n) (ht : t < n) (hl : v 4 a 7 = nI t) : E_v false n L xs (d + 3) 14 [Sum.inr (Sum.inl (4, a))] (v, u, c) none (c_ct v a (c_nt n v a n t), u, c) := by
  refine E_mk mc_14 (by decide) ?_
  refine G_steps 2 (S1 := (2, [some (Sum.inr (Sum.inl (4, a)))], [Sum.inr (Sum.inl (4, a)), Sum.inr (Sum.inl (4, a))], (v, u, c))) rfl rfl ?_
  refine G_call (y := some (Sum.inl (oI (c_nt n v a n t)))) (M1 := (v, u, c)) rfl rfl (e_nextTarget _ hn hf ha ht hl) ?_
  refine G_is (S' := (5, [some (Sum.inr (Sum.inl (4, a)))], [Sum.inl (oI (c_nt n v a n t)), Sum.inr (Sum.inl (4, a))], (v, u, c))) rfl ?_
  refine G_steps 3 (S1 := (10, [some (Sum.inr (Sum.inl (4, a)))], [Sum.inl 0, Sum.inr (Sum.inl (4, a))], (m_u3 v 4 a 9 (oI (c_nt n v a n t)), u, c))) rfl rfl ?_
  refine G_step (S1 := (13, [some (Sum.inr (Sum.inl (4, a)))], [], (m_u3 (m_u3 v 4 a 9 (oI (c_nt n v a n t))) 4 a 10 0, u, c))) rfl rfl ?_
  refine G_steps 2 (S1 := (17, [some (Sum.inr (Sum.inl (4, a)))], [Sum.inl ((m_u3 v 4 a 9 (oI (c_nt n v a n t))) 4 a 9)], (m_u3 (m_u3 v 4 a 9 (oI (c_nt n v a n t))) 4 a 10 0, u, c))) rfl rfl ?_
  refine G_top u3_s ?_
  refine G_steps 2 (S1 := (if oI (c_nt n v a n t) = (-1) then 39 else 21, [some (Sum.inr (Sum.inl (4, a)))], [], (m_u3 (m_u3 v 4 a 9 (oI (c_nt n v a n t))) 4 a 10 0, u, c))) rfl rfl ?_
  refine G_if (fun h1 => ?_) (fun h1 => ?_)
  · skip
    exact G_fin rfl rfl (M_1 (by simp only [c_ct, if_pos h1]))
  · skip
    refine G_steps 3 (S1 := (26, [some (Sum.inr (Sum.inl (4, a)))], [Sum.inl ((m_u3 v 4 a 9 (oI (c_nt n v a n t))) 4 a 9), Sum.inr (Sum.inl (4, a))], (m_u3 (m_u3 v 4 a 9 (oI (c_nt n v a n t))) 4 a 10 0, u, c))) rfl rfl ?_
    refine G_top u3_s ?_
    refine G_steps 7 (S1 := (39, [some (Sum.inr (Sum.inl (4, a)))], [], (m_u3 (m_u3 (m_u3 (m_u3 v 4 a 9 (oI (c_nt n v a n t))) 4 a 10 0) 4 a 7 (oI (c_nt n v a n t))) 4 a 8 ((v 4 a 8) + 1), u, c))) rfl rfl ?_
    exact G_fin rfl rfl (M_1 (by simp only [c_ct, if_neg h1]))
set_option maxRecDepth 100000 in
theorem e_mayAsk (d : Nat) {n L : Nat} {xs : Nat → Int32} {v u : mV} {c : Nat} {a t : Nat} (hn : n ≤ 6) (hf : F_n n v) (ha : a < n) (ht : t < n) : E_v false n L xs (d + 1) 24 [Sum.inr (Sum.inl (4, a)), Sum.inl (nI t)] (v, u, c) (some (Sum.inl (c_ma v a t))) (v, u, c) := by
  refine E_mk mc_24 (by decide) ?_
  refine G_steps 3 (S1 := (5, [some (Sum.inr (Sum.inl (4, a))), some (Sum.inl (nI t))], [Sum.inl (v 4 a 0), Sum.inl (nI t)], (v, u, c))) rfl rfl ?_
  refine G_top ((hf.2 a (by omega)).1) ?_
  refine G_steps 1 (S1 := (if nI t = nI a then 30 else 8, [some (Sum.inr (Sum.inl (4, a))), some (Sum.inl (nI t))], [], (v, u, c))) rfl rfl ?_
  refine G_if (fun h1 => ?_) (fun h1 => ?_)
  · skip
    refine G_steps 1 (S1 := (31, [some (Sum.inr (Sum.inl (4, a))), some (Sum.inl (nI t))], [Sum.inl 0], (v, u, c))) rfl rfl ?_
    exact G_fin rfl (by simp only [c_ma, if_pos h1]) rfl
  · skip
    refine G_steps 4 (S1 := (if nI t = v 4 a 9 then 30 else 16, [some (Sum.inr (Sum.inl (4, a))), some (Sum.inl (nI t))], [], (v, u, c))) rfl rfl ?_
    refine G_if (fun h2 => ?_) (fun h2 => ?_)
    · skip
      refine G_steps 1 (S1 := (31, [some (Sum.inr (Sum.inl (4, a))), some (Sum.inl (nI t))], [Sum.inl 0], (v, u, c))) rfl rfl ?_
      exact G_fin rfl (by simp only [c_ma, if_neg h1, if_pos h2]) rfl
    · skip
      refine G_steps 3 (S1 := (21, [some (Sum.inr (Sum.inl (4, a))), some (Sum.inl (nI t))], [Sum.inl (nI t), Sum.inr (Sum.inl (5, a))], (v, u, c))) rfl rfl ?_
      refine G_step (S1 := (22, [some (Sum.inr (Sum.inl (4, a))), some (Sum.inl (nI t))], [Sum.inl (v 5 a (ix (nI t)))], (v, u, c))) rfl (ib_nI (j := t) (len := n) (by omega) (by omega)) ?_
      rw [ix_nI (j := t) (by omega)]
      refine G_steps 2 (S1 := (if v 5 a t = 2 then 30 else 26, [some (Sum.inr (Sum.inl (4, a))), some (Sum.inl (nI t))], [], (v, u, c))) rfl rfl ?_
      refine G_if (fun h3 => ?_) (fun h3 => ?_)
      · skip
        refine G_steps 1 (S1 := (31, [some (Sum.inr (Sum.inl (4, a))), some (Sum.inl (nI t))], [Sum.inl 0], (v, u, c))) rfl rfl ?_
        exact G_fin rfl (by simp only [c_ma, if_neg h1, if_neg h2, if_pos h3]) rfl
      · skip
        refine G_steps 2 (S1 := (31, [some (Sum.inr (Sum.inl (4, a))), some (Sum.inl (nI t))], [Sum.inl 1], (v, u, c))) rfl rfl ?_
        exact G_fin rfl (by simp only [c_ma, if_neg h1, if_neg h2, if_neg h3]) rfl
set_option maxRecDepth 100000 in
theorem e_takeAnswer (d : Nat) {n L : Nat} {xs : Nat → Int32} {v u : mV} {c : Nat} {a : Nat} {x : Int32} : E_v false n L xs (d + 1) 33 [Sum.inr (Sum.inl (4, a)), Sum.inl x] (v, u, c) none (c_ta v a x, u, c) := by
  refine E_mk mc_33 (by decide) ?_
  refine G_steps 4 (S1 := (if v 4 a 9 = (-1) then 21 else 8, [some (Sum.inr (Sum.inl (4, a))), some (Sum.inl x)], [], (v, u, c))) rfl rfl ?_
  refine G_if (fun h1 => ?_) (fun h1 => ?_)
  · skip
    exact G_fin rfl rfl (M_1 (by simp only [c_ta, if_pos h1]))
  · skip
    refine G_steps 4 (S1 := (if ¬ x = v 4 a 8 then 21 else 16, [some (Sum.inr (Sum.inl (4, a))), some (Sum.inl x)], [], (v, u, c))) rfl rfl ?_
    refine G_ifn (fun h2 => ?_) (fun h2 => ?_)
    · skip
      exact G_fin rfl rfl (M_1 (by simp only [c_ta, if_neg h1, if_neg h2]))
    · skip
      refine G_steps 2 (S1 := (18, [some (Sum.inr (Sum.inl (4, a))), some (Sum.inl x)], [Sum.inl 1, Sum.inr (Sum.inl (4, a))], (v, u, c))) rfl rfl ?_
      refine G_step (S1 := (21, [some (Sum.inr (Sum.inl (4, a))), some (Sum.inl x)], [], (m_u3 v 4 a 10 1, u, c))) rfl rfl ?_
      exact G_fin rfl rfl (M_1 (by simp only [c_ta, if_neg h1, if_pos h2]))
set_option maxRecDepth 100000 in
theorem e_has (d : Nat) {n L : Nat} {xs : Nat → Int32} {v u : mV} {c : Nat} {z : Nat} {k : Int32} (hz : v 2 0 1 = nI z) : E_v false n L xs (d + 1) 26 [Sum.inr (Sum.inl (2, 0)), Sum.inl k] (v, u, c) (some (Sum.inl (c_has z k))) (v, u, c) := by
  refine E_mk mc_26 (by decide) ?_
  refine G_steps 2 (S1 := (if k < 0 then 16 else 4, [some (Sum.inr (Sum.inl (2, 0))), some (Sum.inl k)], [], (v, u, c))) rfl rfl ?_
  refine G_if (fun h1 => ?_) (fun h1 => ?_)
  · skip
    refine G_steps 1 (S1 := (17, [some (Sum.inr (Sum.inl (2, 0))), some (Sum.inl k)], [Sum.inl 0], (v, u, c))) rfl rfl ?_
    exact G_fin rfl (by simp only [c_has, if_pos h1]) rfl
  · skip
    refine G_steps 3 (S1 := (9, [some (Sum.inr (Sum.inl (2, 0))), some (Sum.inl k)], [Sum.inl (v 2 0 1), Sum.inl k], (v, u, c))) rfl rfl ?_
    refine G_top hz ?_
    refine G_steps 1 (S1 := (if nI z ≤ k then 16 else 12, [some (Sum.inr (Sum.inl (2, 0))), some (Sum.inl k)], [], (v, u, c))) rfl rfl ?_
    refine G_if (fun h2 => ?_) (fun h2 => ?_)
    · skip
      refine G_steps 1 (S1 := (17, [some (Sum.inr (Sum.inl (2, 0))), some (Sum.inl k)], [Sum.inl 0], (v, u, c))) rfl rfl ?_
      exact G_fin rfl (by simp only [c_has, if_neg h1, if_pos h2]) rfl
    · skip
      refine G_steps 2 (S1 := (17, [some (Sum.inr (Sum.inl (2, 0))), some (Sum.inl k)], [Sum.inl 1], (v, u, c))) rfl rfl ?_
      exact G_fin rfl (by simp only [c_has, if_neg h1, if_neg h2]) rfl
set_option maxRecDepth 100000 in
theorem e_isNode (d : Nat) {n L : Nat} {xs : Nat → Int32} {v u : mV} {c : Nat} {k : Int32} (hf : F_n n v) : E_v false n L xs (d + 1) 7 [Sum.inr (Sum.inl (0, 0)), Sum.inl k] (v, u, c) (some (Sum.inl (c_in n k))) (v, u, c) := by
  refine E_mk mc_7 (by decide) ?_
  refine G_steps 2 (S1 := (if k < 0 then 16 else 4, [some (Sum.inr (Sum.inl (0, 0))), some (Sum.inl k)], [], (v, u, c))) rfl rfl ?_
  refine G_if (fun h1 => ?_) (fun h1 => ?_)
  · skip
    refine G_steps 1 (S1 := (17, [some (Sum.inr (Sum.inl (0, 0))), some (Sum.inl k)], [Sum.inl 0], (v, u, c))) rfl rfl ?_
    exact G_fin rfl (by simp only [c_in, if_pos h1]) rfl
  · skip
    refine G_steps 3 (S1 := (9, [some (Sum.inr (Sum.inl (0, 0))), some (Sum.inl k)], [Sum.inl (v 0 0 0), Sum.inl k], (v, u, c))) rfl rfl ?_
    refine G_top hf.1 ?_
    refine G_steps 1 (S1 := (if nI n ≤ k then 16 else 12, [some (Sum.inr (Sum.inl (0, 0))), some (Sum.inl k)], [], (v, u, c))) rfl rfl ?_
    refine G_if (fun h2 => ?_) (fun h2 => ?_)
    · skip
      refine G_steps 1 (S1 := (17, [some (Sum.inr (Sum.inl (0, 0))), some (Sum.inl k)], [Sum.inl 0], (v, u, c))) rfl rfl ?_
      exact G_fin rfl (by simp only [c_in, if_neg h1, if_pos h2]) rfl
    · skip
      refine G_steps 2 (S1 := (17, [some (Sum.inr (Sum.inl (0, 0))), some (Sum.inl k)], [Sum.inl 1], (v, u, c))) rfl rfl ?_
      exact G_fin rfl (by simp only [c_in, if_neg h1, if_neg h2]) rfl
set_option maxRecDepth 100000 in
theorem e_takeOut (d : Nat) {n L : Nat} {xs : Nat → Int32} {v u : mV} {c : Nat} {k z : Nat} {g : Nat → Nat} (hn : n ≤ 6) (hc : c = (K_T n).length) (hg : ∀ j, j < 25 → v 3 0 j = nI (g j) ∧ g j < 25) (hk : k ≤ 24) (hz : v 2 0 1 = nI (z + 1)) (hz2 : z ≤ 24) : E_v false n L xs (d + 1) 28 [Sum.inr (Sum.inl (2, 0)), Sum.inl (nI k)] (v, u, c) (some (Sum.inr (Sum.inl (12, g k)))) (c_tk v g k z, u, c) := by
  refine E_mk mc_28 (by decide) ?_
  obtain ⟨hgk, hgk2⟩ := hg k (by omega)
  refine G_steps 3 (S1 := (5, [some (Sum.inr (Sum.inl (2, 0))), some (Sum.inl (nI k)), none, none], [Sum.inl (nI k), Sum.inr (Sum.inl (3, 0))], (v, u, c))) rfl rfl ?_
  refine G_step (S1 := (6, [some (Sum.inr (Sum.inl (2, 0))), some (Sum.inl (nI k)), none, none], [Sum.inr (Sum.inl (12, ix (v 3 0 (ix (nI k)))))], (v, u, c))) rfl (ald_m hn (by omega) hgk hgk2 hc) ?_
  rw [ix_nI (j := k) (by omega), hgk, ix_nI (j := g k) (by omega)]
  refine G_steps 3 (S1 := (9, [some (Sum.inr (Sum.inl (2, 0))), some (Sum.inl (nI k)), some (Sum.inr (Sum.inl (12, g k))), some (Sum.inl (nI k))], [], (v, u, c))) rfl rfl ?_
  refine G_is (S' := (9, [some (Sum.inr (Sum.inl (2, 0))), some (Sum.inl (nI k)), some (Sum.inr (Sum.inl (12, g k))), some (Sum.inl (nI (k + 0)))], [], (c_to v g k 0, u, c))) rfl ?_
  refine G_loop (S := fun j => (9, [some (Sum.inr (Sum.inl (2, 0))), some (Sum.inl (nI k)), some (Sum.inr (Sum.inl (12, g k))), some (Sum.inl (nI (k + j)))], [], (c_to v g k j, u, c))) (N := 24 - k) (fun j hj K => ?_) ?_
  · skip
    obtain ⟨h1, h2⟩ := hg (k + j + 1) (by omega)
    refine G_steps 3 (S1 := (if 24 ≤ nI (k + j) then 35 else 15, [some (Sum.inr (Sum.inl (2, 0))), some (Sum.inl (nI k)), some (Sum.inr (Sum.inl (12, g k))), some (Sum.inl (nI (k + j)))], [], (c_to v g k j, u, c))) rfl rfl ?_
    refine G_iF (fun z => absurd ((nI_le' (a := 24) (by omega) (by omega)).mp z) (by omega)) ?_
    refine G_steps 8 (S1 := (27, [some (Sum.inr (Sum.inl (2, 0))), some (Sum.inl (nI k)), some (Sum.inr (Sum.inl (12, g k))), some (Sum.inl (nI (k + j)))], [Sum.inl ((nI (k + j)) + 1), Sum.inr (Sum.inl (3, 0)), Sum.inl (nI (k + j)), Sum.inr (Sum.inl (3, 0))], (c_to v g k j, u, c))) rfl rfl ?_
    refine G_top ((nI_succ (k + j)).symm) ?_
    refine G_step (S1 := (28, [some (Sum.inr (Sum.inl (2, 0))), some (Sum.inl (nI k)), some (Sum.inr (Sum.inl (12, g k))), some (Sum.inl (nI (k + j)))], [Sum.inr (Sum.inl (12, ix ((c_to v g k j) 3 0 (ix (nI (k + j + 1)))))), Sum.inl (nI (k + j)), Sum.inr (Sum.inl (3, 0))], (c_to v g k j, u, c))) rfl (ald_m hn (by omega) ((to_hi (by omega)).trans h1) h2 hc) ?_
    rw [ix_nI (j := k + j + 1) (by omega), to_hi (i := k + j + 1) (by omega), h1, ix_nI (j := g (k + j + 1)) (by omega)]
    refine G_step (S1 := (29, [some (Sum.inr (Sum.inl (2, 0))), some (Sum.inl (nI k)), some (Sum.inr (Sum.inl (12, g k))), some (Sum.inl (nI (k + j)))], [], (m_u3 (c_to v g k j) 3 0 (ix (nI (k + j))) (nI (g (k + j + 1))), u, c))) rfl (ast_m (by omega) h2) ?_
    rw [ix_nI (j := (k + j)) (by omega)]
    refine G_steps 2 (S1 := (9, [some (Sum.inr (Sum.inl (2, 0))), some (Sum.inl (nI k)), some (Sum.inr (Sum.inl (12, g k))), some (Sum.inl ((nI (k + j)) + 1))], [], (m_u3 (c_to v g k j) 3 0 (k + j) (nI (g (k + j + 1))), u, c))) rfl rfl ?_
    exact G_is (by rw [← nI_succ]; rfl) K
  · skip
    refine G_steps 3 (S1 := (if 24 ≤ nI (k + (24 - k)) then 35 else 15, [some (Sum.inr (Sum.inl (2, 0))), some (Sum.inl (nI k)), some (Sum.inr (Sum.inl (12, g k))), some (Sum.inl (nI (k + (24 - k))))], [], (c_to v g k (24 - k), u, c))) rfl rfl ?_
    refine G_iT ((nI_le' (a := 24) (by omega) (by omega)).mpr (by omega)) ?_
    refine G_steps 4 (S1 := (42, [some (Sum.inr (Sum.inl (2, 0))), some (Sum.inl (nI k)), some (Sum.inr (Sum.inl (12, g k))), some (Sum.inl (nI (k + (24 - k))))], [Sum.inr (Sum.inl (12, g k)), Sum.inl 24, Sum.inr (Sum.inl (3, 0))], (c_to v g k (24 - k), u, c))) rfl rfl ?_
    refine G_step (S1 := (43, [some (Sum.inr (Sum.inl (2, 0))), some (Sum.inl (nI k)), some (Sum.inr (Sum.inl (12, g k))), some (Sum.inl (nI (k + (24 - k))))], [], (m_u3 (c_to v g k (24 - k)) 3 0 (ix 24) (nI (g k)), u, c))) rfl (ast_m (i := 24) (by omega) hgk2) ?_
    rw [show ix 24 = 24 from rfl]
    refine G_steps 3 (S1 := (48, [some (Sum.inr (Sum.inl (2, 0))), some (Sum.inl (nI k)), some (Sum.inr (Sum.inl (12, g k))), some (Sum.inl (nI (k + (24 - k))))], [Sum.inl ((c_to v g k (24 - k)) 2 0 1), Sum.inr (Sum.inl (2, 0))], (m_u3 (c_to v g k (24 - k)) 3 0 24 (nI (g k)), u, c))) rfl rfl ?_
    refine G_top ((congrFun (congrFun (to_k rfl) 0) 1).trans hz) ?_
    refine G_steps 2 (S1 := (50, [some (Sum.inr (Sum.inl (2, 0))), some (Sum.inl (nI k)), some (Sum.inr (Sum.inl (12, g k))), some (Sum.inl (nI (k + (24 - k))))], [Sum.inl ((nI (z + 1)) - 1), Sum.inr (Sum.inl (2, 0))], (m_u3 (c_to v g k (24 - k)) 3 0 24 (nI (g k)), u, c))) rfl rfl ?_
    refine G_top (nI_pred z) ?_
    refine G_steps 2 (S1 := (54, [some (Sum.inr (Sum.inl (2, 0))), some (Sum.inl (nI k)), some (Sum.inr (Sum.inl (12, g k))), some (Sum.inl (nI (k + (24 - k))))], [Sum.inr (Sum.inl (12, g k))], (m_u3 (m_u3 (c_to v g k (24 - k)) 3 0 24 (nI (g k))) 2 0 1 (nI z), u, c))) rfl rfl ?_
    exact G_fin rfl rfl rfl
