def c_ann (v : mV) (a : Nat) (m s i : Int32) : mV := m_u3 (m_u3 (m_u3 v 9 a (ix m) s) 10 a (ix m) i) 11 a (ix m) 0
def c_adopt (v : mV) (a : Nat) (m s i : Int32) : mV := c_ann (m_u3 (m_u3 (m_u3 v 5 a (ix m) s) 6 a (ix m) i) 7 a (ix m) 0) a m s i
def c_nw (s i t j : Int32) : Int32 := if t = 2 then 0 else if s = 2 then 1 else if s = 1 then (if t = 0 then (if i < j then 0 else 1) else (if i ≤ j then 0 else 1)) else (if i ≤ j then 0 else 1)
set_option maxRecDepth 100000 in
theorem e_announce (d : Nat) {n L : Nat} {xs : Nat → Int32} {v u : mV} {c : Nat} {a : Nat} {m s i : Int32} (hm : i_b m n = true) : E_v false n L xs (d + 1) 11 [Sum.inr (Sum.inl (8, a)), Sum.inl m, Sum.inl s, Sum.inl i] (v, u, c) none (c_ann v a m s i, u, c) := by
  refine E_mk mc_11 (by decide) ?_
  refine G_steps 4 (S1 := (6, [some (Sum.inr (Sum.inl (8, a))), some (Sum.inl m), some (Sum.inl s), some (Sum.inl i)], [Sum.inl s, Sum.inl m, Sum.inr (Sum.inl (9, a))], (v, u, c))) rfl rfl ?_
  refine G_step (S1 := (7, [some (Sum.inr (Sum.inl (8, a))), some (Sum.inl m), some (Sum.inl s), some (Sum.inl i)], [], (m_u3 v 9 a (ix m) s, u, c))) rfl hm ?_
  refine G_steps 4 (S1 := (13, [some (Sum.inr (Sum.inl (8, a))), some (Sum.inl m), some (Sum.inl s), some (Sum.inl i)], [Sum.inl i, Sum.inl m, Sum.inr (Sum.inl (10, a))], (m_u3 v 9 a (ix m) s, u, c))) rfl rfl ?_
  refine G_step (S1 := (14, [some (Sum.inr (Sum.inl (8, a))), some (Sum.inl m), some (Sum.inl s), some (Sum.inl i)], [], (m_u3 (m_u3 v 9 a (ix m) s) 10 a (ix m) i, u, c))) rfl hm ?_
  refine G_steps 4 (S1 := (20, [some (Sum.inr (Sum.inl (8, a))), some (Sum.inl m), some (Sum.inl s), some (Sum.inl i)], [Sum.inl 0, Sum.inl m, Sum.inr (Sum.inl (11, a))], (m_u3 (m_u3 v 9 a (ix m) s) 10 a (ix m) i, u, c))) rfl rfl ?_
  refine G_step (S1 := (21, [some (Sum.inr (Sum.inl (8, a))), some (Sum.inl m), some (Sum.inl s), some (Sum.inl i)], [], (m_u3 (m_u3 (m_u3 v 9 a (ix m) s) 10 a (ix m) i) 11 a (ix m) 0, u, c))) rfl hm ?_
  exact G_fin rfl rfl (M_1 rfl)
set_option maxRecDepth 100000 in
theorem e_adopt (d : Nat) {n L : Nat} {xs : Nat → Int32} {v u : mV} {c : Nat} {a : Nat} {m s i : Int32} (hm : i_b m n = true) : E_v false n L xs (d + 2) 10 [Sum.inr (Sum.inl (4, a)), Sum.inl m, Sum.inl s, Sum.inl i] (v, u, c) none (c_adopt v a m s i, u, c) := by
  refine E_mk mc_10 (by decide) ?_
  refine G_steps 4 (S1 := (6, [some (Sum.inr (Sum.inl (4, a))), some (Sum.inl m), some (Sum.inl s), some (Sum.inl i)], [Sum.inl s, Sum.inl m, Sum.inr (Sum.inl (5, a))], (v, u, c))) rfl rfl ?_
  refine G_step (S1 := (7, [some (Sum.inr (Sum.inl (4, a))), some (Sum.inl m), some (Sum.inl s), some (Sum.inl i)], [], (m_u3 v 5 a (ix m) s, u, c))) rfl hm ?_
  refine G_steps 4 (S1 := (13, [some (Sum.inr (Sum.inl (4, a))), some (Sum.inl m), some (Sum.inl s), some (Sum.inl i)], [Sum.inl i, Sum.inl m, Sum.inr (Sum.inl (6, a))], (m_u3 v 5 a (ix m) s, u, c))) rfl rfl ?_
  refine G_step (S1 := (14, [some (Sum.inr (Sum.inl (4, a))), some (Sum.inl m), some (Sum.inl s), some (Sum.inl i)], [], (m_u3 (m_u3 v 5 a (ix m) s) 6 a (ix m) i, u, c))) rfl hm ?_
  refine G_steps 4 (S1 := (20, [some (Sum.inr (Sum.inl (4, a))), some (Sum.inl m), some (Sum.inl s), some (Sum.inl i)], [Sum.inl 0, Sum.inl m, Sum.inr (Sum.inl (7, a))], (m_u3 (m_u3 v 5 a (ix m) s) 6 a (ix m) i, u, c))) rfl rfl ?_
  refine G_step (S1 := (21, [some (Sum.inr (Sum.inl (4, a))), some (Sum.inl m), some (Sum.inl s), some (Sum.inl i)], [], (m_u3 (m_u3 (m_u3 v 5 a (ix m) s) 6 a (ix m) i) 7 a (ix m) 0, u, c))) rfl hm ?_
  refine G_steps 5 (S1 := (28, [some (Sum.inr (Sum.inl (4, a))), some (Sum.inl m), some (Sum.inl s), some (Sum.inl i)], [Sum.inl i, Sum.inl s, Sum.inl m, Sum.inr (Sum.inl (8, a))], (m_u3 (m_u3 (m_u3 v 5 a (ix m) s) 6 a (ix m) i) 7 a (ix m) 0, u, c))) rfl rfl ?_
  refine G_call (y := none) (M1 := (c_ann (m_u3 (m_u3 (m_u3 v 5 a (ix m) s) 6 a (ix m) i) 7 a (ix m) 0) a m s i, u, c)) rfl rfl (e_announce _ hm) ?_
  refine G_is (S' := (31, [some (Sum.inr (Sum.inl (4, a))), some (Sum.inl m), some (Sum.inl s), some (Sum.inl i)], [], (c_ann (m_u3 (m_u3 (m_u3 v 5 a (ix m) s) 6 a (ix m) i) 7 a (ix m) 0) a m s i, u, c))) rfl ?_
  exact G_fin rfl rfl (M_1 rfl)
set_option maxRecDepth 100000 in
theorem e_isNewer (d : Nat) {n L : Nat} {xs : Nat → Int32} {v u : mV} {c : Nat} {s i t j : Int32} : E_v false n L xs (d + 1) 31 [Sum.inl s, Sum.inl i, Sum.inl t, Sum.inl j] (v, u, c) (some (Sum.inl (c_nw s i t j))) (v, u, c) := by
  refine E_mk mc_31 (by decide) ?_
  refine G_steps 3 (S1 := (if ¬ t = 2 then 7 else 5, [some (Sum.inl s), some (Sum.inl i), some (Sum.inl t), some (Sum.inl j)], [], (v, u, c))) rfl rfl ?_
  refine G_ifn (fun h1 => ?_) (fun h1 => ?_)
  · skip
    refine G_steps 3 (S1 := (if ¬ s = 2 then 14 else 12, [some (Sum.inl s), some (Sum.inl i), some (Sum.inl t), some (Sum.inl j)], [], (v, u, c))) rfl rfl ?_
    refine G_ifn (fun h2 => ?_) (fun h2 => ?_)
    · skip
      refine G_steps 3 (S1 := (if ¬ s = 1 then 36 else 19, [some (Sum.inl s), some (Sum.inl i), some (Sum.inl t), some (Sum.inl j)], [], (v, u, c))) rfl rfl ?_
      refine G_ifn (fun h3 => ?_) (fun h3 => ?_)
      · skip
        refine G_steps 3 (S1 := (if i ≤ j then 45 else 41, [some (Sum.inl s), some (Sum.inl i), some (Sum.inl t), some (Sum.inl j)], [], (v, u, c))) rfl rfl ?_
        refine G_if (fun h4 => ?_) (fun h4 => ?_)
        · skip
          refine G_steps 1 (S1 := (46, [some (Sum.inl s), some (Sum.inl i), some (Sum.inl t), some (Sum.inl j)], [Sum.inl 0], (v, u, c))) rfl rfl ?_
          exact G_fin rfl (by simp only [c_nw, if_neg h1, if_neg h2, if_neg h3, if_pos h4]) rfl
        · skip
          refine G_steps 2 (S1 := (46, [some (Sum.inl s), some (Sum.inl i), some (Sum.inl t), some (Sum.inl j)], [Sum.inl 1], (v, u, c))) rfl rfl ?_
          exact G_fin rfl (by simp only [c_nw, if_neg h1, if_neg h2, if_neg h3, if_neg h4]) rfl
      · skip
        refine G_steps 2 (S1 := (if ¬ t = 0 then 36 else 23, [some (Sum.inl s), some (Sum.inl i), some (Sum.inl t), some (Sum.inl j)], [], (v, u, c))) rfl rfl ?_
        refine G_ifn (fun h5 => ?_) (fun h5 => ?_)
        · skip
          refine G_steps 3 (S1 := (if i ≤ j then 45 else 41, [some (Sum.inl s), some (Sum.inl i), some (Sum.inl t), some (Sum.inl j)], [], (v, u, c))) rfl rfl ?_
          refine G_if (fun h6 => ?_) (fun h6 => ?_)
          · skip
            refine G_steps 1 (S1 := (46, [some (Sum.inl s), some (Sum.inl i), some (Sum.inl t), some (Sum.inl j)], [Sum.inl 0], (v, u, c))) rfl rfl ?_
            exact G_fin rfl (by simp only [c_nw, if_neg h1, if_neg h2, if_pos h3, if_neg h5, if_pos h6]) rfl
          · skip
            refine G_steps 2 (S1 := (46, [some (Sum.inl s), some (Sum.inl i), some (Sum.inl t), some (Sum.inl j)], [Sum.inl 1], (v, u, c))) rfl rfl ?_
            exact G_fin rfl (by simp only [c_nw, if_neg h1, if_neg h2, if_pos h3, if_neg h5, if_neg h6]) rfl
        · skip
          refine G_steps 3 (S1 := (if i < j then 32 else 28, [some (Sum.inl s), some (Sum.inl i), some (Sum.inl t), some (Sum.inl j)], [], (v, u, c))) rfl rfl ?_
          refine G_if (fun h7 => ?_) (fun h7 => ?_)
          · skip
            refine G_steps 2 (S1 := (46, [some (Sum.inl s), some (Sum.inl i), some (Sum.inl t), some (Sum.inl j)], [Sum.inl 0], (v, u, c))) rfl rfl ?_
            exact G_fin rfl (by simp only [c_nw, if_neg h1, if_neg h2, if_pos h3, if_pos h5, if_pos h7]) rfl
          · skip
            refine G_steps 2 (S1 := (46, [some (Sum.inl s), some (Sum.inl i), some (Sum.inl t), some (Sum.inl j)], [Sum.inl 1], (v, u, c))) rfl rfl ?_
            exact G_fin rfl (by simp only [c_nw, if_neg h1, if_neg h2, if_pos h3, if_pos h5, if_neg h7]) rfl
    · skip
      refine G_steps 1 (S1 := (13, [some (Sum.inl s), some (Sum.inl i), some (Sum.inl t), some (Sum.inl j)], [Sum.inl 1], (v, u, c))) rfl rfl ?_
      exact G_fin rfl (by simp only [c_nw, if_neg h1, if_pos h2]) rfl
  · skip
    refine G_steps 1 (S1 := (6, [some (Sum.inl s), some (Sum.inl i), some (Sum.inl t), some (Sum.inl j)], [Sum.inl 0], (v, u, c))) rfl rfl ?_
    exact G_fin rfl (by simp only [c_nw, if_pos h1]) rfl
