section SA
variable {p : Program} {l : Launch} {e : Env} {R : Room} {s : State} {m : MethodId} {args : Array Value} {below : List Frame} {meth : Method} {c : Code} {Q : State → Prop} {D : va_G} {ty : Nat → ClassId} {G : Nat → Nat → Nat} {b z0 : Nat} {cs : Bool} {n L : Nat} {xs : Nat → Int32} {mi c0 pc a bb : Nat} {x : Int32} {ll : List (Option aV)} {st : List aV} {M : aM} {S' : aS}
theorem key_s {q : Nat × Nat} (hn : n ≤ 6) (h : o_v n c0 (.inr (.inl q))) (hk : q.1 = 50) : q = (50, 0) := by
  rcases h with z | z
  · have := K_k n (by omega) q (List.mem_of_mem_take z)
    omega
  · exact z
theorem C_n (hC : C_X p R s m args meth c D ty G b z0 n L xs mi) : n ≤ 6 := hC.2.2.2.2.2.2.2.2.2.1.2.2
theorem C_b (hC : C_X p R s m args meth c D ty G b z0 n L xs mi) : va_X (G 50 0) L xs s s.heap ∧ G 50 0 < s.heap.size ∧ ¬ z0 ≤ G 50 0 := by
  obtain ⟨-, -, -, -, -, -, hX, hbl, -, ⟨-, hb, -⟩, -⟩ := hC
  rw [hb]
  exact ⟨hX, by omega, by omega⟩
theorem si_iaload (hC : C_X p R s m args meth c D ty G b z0 n L xs mi) (hd : decode (m_B mi) pc = .ok (.iaload, 1)) (h : o_IR st (f_ild n L xs pc ll M) = some (true, S')) (k : A_W p l e R s m args below meth c Q D ty G z0 cs n (m_L mi) c0 S') : A_W p l e R s m args below meth c Q D ty G z0 cs n (m_L mi) c0 (pc, ll, st, M) := by
  obtain ⟨x', q, r, rfl, hh⟩ := o_IR_inv h
  clear h
  have h := hh
  clear hh
  unfold f_ild at h
  split at h
  · rename_i hk
    have hk : q.1 = 50 := Nat.eq_of_beq_eq_true hk
    obtain ⟨h1, rfl⟩ := Prod.mk.inj (Option.some.inj h)
    intro H locs ls hR
    obtain ⟨hP, hD, hS, hz, hle, hl, hv, hw⟩ := hR
    have hq := key_s (C_n hC) (v_h (v_t hv)) hk
    subst hq
    obtain ⟨g1, g2, g3⟩ := C_b hC
    refine va_sld hC.1 hC.2.1 g1 g2 g3 hS (i_b_in h1) hd ?_
    exact k H locs ls ⟨hP, hD, hS, hz, hle, hl, v_c trivial (v_t (v_t hv)), hw⟩
  · split at h
    · rename_i hk
      have hk : k_t q.1 = 0 := Nat.eq_of_beq_eq_true hk
      obtain ⟨h1, rfl⟩ := Prod.mk.inj (Option.some.inj h)
      intro H locs ls hR
      obtain ⟨hP, hD, hS, hz, hle, hl, hv, hw⟩ := hR
      obtain ⟨pp, hpp⟩ := List.getElem?_of_mem (key_a (v_h (v_t hv)) (by omega))
      refine va_iald hC.1 hC.2.1 hC.2.2.2.2.2.1 hP pp 0 (by rw [w_get hpp, c_e_i (by omega), hk]) rfl (i_b_in h1) hd ?_
      exact k H locs ls ⟨hP, hD, hS, hz, hle, hl, v_c trivial (v_t (v_t hv)), hw⟩
    · cases h
theorem si_baload (hC : C_X p R s m args meth c D ty G b z0 n L xs mi) (hd : decode (m_B mi) pc = .ok (.baload, 1)) (h : o_IR st (f_zld n pc ll M) = some (true, S')) (k : A_W p l e R s m args below meth c Q D ty G z0 cs n (m_L mi) c0 S') : A_W p l e R s m args below meth c Q D ty G z0 cs n (m_L mi) c0 (pc, ll, st, M) := by
  obtain ⟨x', q, r, rfl, hh⟩ := o_IR_inv h
  clear h
  have h := hh
  clear hh
  unfold f_zld at h
  split at h
  · rename_i hk
    have hk : k_t q.1 = 1 := Nat.eq_of_beq_eq_true hk
    obtain ⟨h1, rfl⟩ := Prod.mk.inj (Option.some.inj h)
    intro H locs ls hR
    obtain ⟨hP, hD, hS, hz, hle, hl, hv, hw⟩ := hR
    obtain ⟨pp, hpp⟩ := List.getElem?_of_mem (key_a (v_h (v_t hv)) (by omega))
    refine va_zald hC.1 hC.2.1 hC.2.2.2.2.2.1 hP pp 1 (by rw [w_get hpp, c_e_i (by omega), hk]) rfl (i_b_in h1) hd ?_
    exact k H locs ls ⟨hP, hD, hS, hz, hle, hl, v_c trivial (v_t (v_t hv)), hw⟩
  · cases h
theorem si_aaload (hC : C_X p R s m args meth c D ty G b z0 n L xs mi) (hd : decode (m_B mi) pc = .ok (.aaload, 1)) (h : o_IR st (f_ald cs n pc ll M) = some (true, S')) (k : A_W p l e R s m args below meth c Q D ty G z0 cs n (m_L mi) c0 S') : A_W p l e R s m args below meth c Q D ty G z0 cs n (m_L mi) c0 (pc, ll, st, M) := by
  obtain ⟨x', q, r, rfl, hh⟩ := o_IR_inv h
  clear h
  have h := hh
  clear hh
  unfold f_ald at h
  split at h
  · rename_i hk
    have hk : k_t q.1 = 2 ∨ k_t q.1 = 3 := by
      rcases Bool.or_eq_true _ _ ▸ hk with z | z
      · exact Or.inl (Nat.eq_of_beq_eq_true z)
      · exact Or.inr (Nat.eq_of_beq_eq_true z)
    obtain ⟨h1, rfl⟩ := Prod.mk.inj (Option.some.inj h)
    rw [Bool.and_eq_true, Bool.and_eq_true] at h1
    obtain ⟨h1, h2, h3⟩ := h1
    have h3 := of_decide_eq_true h3
    intro H locs ls hR
    obtain ⟨hP, hD, hS, hz, hle, hl, hv, hw⟩ := hR
    obtain ⟨pp, hpp⟩ := List.getElem?_of_mem (key_a (v_h (v_t hv)) (by omega))
    have hlt : ix x' < 50 := by
      have h4 := i_b_in h1
      have h5 : k_n n q.1 ≤ 50 := by
        have h6 := C_n hC
        have h7 : q.1 < 43 := K_k n (by omega) q (List.mem_of_mem_take (key_a (v_h (v_t hv)) (by omega)))
        have h8 : ∀ n, n < 7 → ∀ k, k < 43 → k_n n k ≤ 50 := by decide +kernel
        exact h8 n (by omega) _ h7
      have h6 : ix x' < k_n n q.1 := Nat.not_le.mp fun z => h4 (Or.inr z)
      omega
    have hval : r_e cs G q.1 (m_rd M q.1 q.2) (ix x') = some (G (k_e q.1 (ix x') (m_rd M q.1 q.2 (ix x'))).1 (k_e q.1 (ix x') (m_rd M q.1 q.2 (ix x'))).2) := by
      have e1 : Nat.ble 50 (ix x') = false := by
        cases e : Nat.ble 50 (ix x') with
        | false => rfl
        | true => exact absurd (Nat.le_of_ble_eq_true e) (by omega)
      unfold r_e
      rw [e1]
      cases cs with
      | false => rfl
      | true =>
        simp only [Bool.not_true, Bool.false_or, Bool.not_eq_true', decide_eq_false_iff_not] at h2
        simp [h2]
    have fin : W p l e R s m args below meth c H locs (M.2.2 - c0) (s_l n M.2.2 - s_l n c0) Q (F0 m (pc + 1) ls (va_rf (r_e cs G q.1 (m_rd M q.1 q.2) x'.toNatClampNeg) :: r.map (t_v G))) := by
      have e2 : r_e cs G q.1 (m_rd M q.1 q.2) x'.toNatClampNeg = _ := hval
      rw [e2]
      exact k H locs ls ⟨hP, hD, hS, hz, hle, hl, v_c (Or.inl h3) (v_t (v_t hv)), hw⟩
    rcases hk with hk | hk
    · exact va_aldq (C := R_o 3) hC.1 hC.2.1 hC.2.2.2.2.2.1 hP pp 2 (by rw [w_get hpp, c_e_r (Or.inl hk), hk]) rfl (i_b_in h1) hd fin
    · exact va_aldq (C := R_o 2) hC.1 hC.2.1 hC.2.2.2.2.2.1 hP pp 3 (by rw [w_get hpp, c_e_r (Or.inr hk), hk]) rfl (i_b_in h1) hd fin
  · cases h
theorem si_iastore (hC : C_X p R s m args meth c D ty G b z0 n L xs mi) (hs0 : s.heap.size = z0 + c0) (hc0 : c0 ≤ M.2.2) (hd : decode (m_B mi) pc = .ok (.iastore, 1)) (h : o_IIR st (f_ist n pc ll M) = some (true, S')) (k : A_W p l e R s m args below meth c Q D ty G z0 cs n (m_L mi) c0 S') : A_W p l e R s m args below meth c Q D ty G z0 cs n (m_L mi) c0 (pc, ll, st, M) := by
  obtain ⟨y, x', q, r, rfl, hh⟩ := o_IIR_inv h
  clear h
  have h := hh
  clear hh
  unfold f_ist at h
  split at h
  · rename_i hk
    have hk : k_t q.1 = 0 := Nat.eq_of_beq_eq_true hk
    obtain ⟨h1, rfl⟩ := Prod.mk.inj (Option.some.inj h)
    intro H locs ls hR
    obtain ⟨hP, hD, hS, hz, hle, hl, hv, hw⟩ := hR
    obtain ⟨pp, hpp⟩ := List.getElem?_of_mem (key_a (v_h (v_t (v_t hv))) (by omega))
    refine va_iast hC.1 hC.2.1 hC.2.2.2.2.2.1 hP hD (va_S_here hS) pp 0 (by rw [w_get hpp, c_e_i (by omega), hk]) rfl (i_b_in h1) hd (fun H1 locs1 hP1 hD1 hS1 => ?_)
    have e1 := m_wr_c M q.1 q.2 (ix x') y
    rw [w_setG (k := q.1) (i := q.2) hD hpp e1 (fun k' i' => m_rd_wr M q.1 q.2 (ix x') y k' i') (by rw [c_e_i (by omega), hk]; rfl)] at hP1 hD1
    refine W_size (fun hsz2 => ?_)
    have kk := k H1 locs1 ls
    have hsz := hS1.1
    dsimp only at kk hz hle hsz2
    rw [e1] at kk
    exact kk ⟨hP1, hD1, va_S_tr hS hS1, by rw [e1]; omega, by dsimp only; rw [e1]; exact hle, hl, by dsimp only; rw [e1]; exact v_t (v_t (v_t hv)), by dsimp only; rw [e1]; exact hw⟩
  · cases h
theorem si_bastore (hC : C_X p R s m args meth c D ty G b z0 n L xs mi) (hs0 : s.heap.size = z0 + c0) (hc0 : c0 ≤ M.2.2) (hd : decode (m_B mi) pc = .ok (.bastore, 1)) (h : o_IIR st (f_zst n pc ll M) = some (true, S')) (k : A_W p l e R s m args below meth c Q D ty G z0 cs n (m_L mi) c0 S') : A_W p l e R s m args below meth c Q D ty G z0 cs n (m_L mi) c0 (pc, ll, st, M) := by
  obtain ⟨y, x', q, r, rfl, hh⟩ := o_IIR_inv h
  clear h
  have h := hh
  clear hh
  unfold f_zst at h
  split at h
  · rename_i hk
    have hk : k_t q.1 = 1 := Nat.eq_of_beq_eq_true hk
    obtain ⟨h1, rfl⟩ := Prod.mk.inj (Option.some.inj h)
    rw [Bool.and_eq_true] at h1
    obtain ⟨h1, h2⟩ := h1
    have hy : vp_nar .boolean y = y := by
      rcases b_01_or h2 with rfl | rfl <;> decide
    intro H locs ls hR
    obtain ⟨hP, hD, hS, hz, hle, hl, hv, hw⟩ := hR
    obtain ⟨pp, hpp⟩ := List.getElem?_of_mem (key_a (v_h (v_t (v_t hv))) (by omega))
    refine va_zast hC.1 hC.2.1 hC.2.2.2.2.2.1 hP hD (va_S_here hS) pp 1 (by rw [w_get hpp, c_e_i (by omega), hk]) rfl (i_b_in h1) hd (fun H1 locs1 hP1 hD1 hS1 => ?_)
    have e1 := m_wr_c M q.1 q.2 (ix x') y
    rw [hy, w_setG (k := q.1) (i := q.2) hD hpp e1 (fun k' i' => m_rd_wr M q.1 q.2 (ix x') y k' i') (by rw [c_e_i (by omega), hk]; rfl)] at hP1 hD1
    refine W_size (fun hsz2 => ?_)
    have kk := k H1 locs1 ls
    have hsz := hS1.1
    dsimp only at kk hz hle hsz2
    rw [e1] at kk
    exact kk ⟨hP1, hD1, va_S_tr hS hS1, by rw [e1]; omega, by dsimp only; rw [e1]; exact hle, hl, by dsimp only; rw [e1]; exact v_t (v_t (v_t hv)), by dsimp only; rw [e1]; exact hw⟩
  · cases h
theorem r_e_3f {g : Nat → Int32} {j o : Nat} (ho : o ≤ 24) (hj : j < 25) : va_up (r_e false G 3 g) j (some (G 12 o)) = r_e false G 3 (upd g j (nI o)) := by
  funext q
  have hio : ix (nI o) = o := nI_clamp (by omega)
  by_cases hq : q = j
  · subst hq
    have e1 : Nat.ble 50 q = false := by
      cases e : Nat.ble 50 q with
      | false => rfl
      | true => exact absurd (Nat.le_of_ble_eq_true e) (by omega)
    simp [va_up, r_e, e1, upd, k_e, hio]
    rfl
  · simp [va_up, r_e, hq, upd]
theorem r_e_3t {g : Nat → Int32} {j o : Nat} (ho : o ≤ 24) (hj : j < 25) : va_up (r_e true G 3 g) j (some (G 12 o)) = r_e true G 3 (upd (upd g j (nI o)) (100 + j) 1) := by
  funext q
  have hio : ix (nI o) = o := nI_clamp (by omega)
  by_cases hq : q = j
  · subst hq
    have e1 : Nat.ble 50 q = false := by
      cases e : Nat.ble 50 q with
      | false => rfl
      | true => exact absurd (Nat.le_of_ble_eq_true e) (by omega)
    have e2 : ¬ q = 100 + q := by omega
    simp [va_up, r_e, e1, upd, k_e, hio, e2]
    rfl
  · cases e : Nat.ble 50 q with
    | true => simp [va_up, r_e, hq, e]
    | false =>
      have e0 : q < 50 := by
        rcases Nat.lt_or_ge q 50 with z | z
        · exact z
        · rw [Nat.ble_eq_true_of_le z] at e
          cases e
      have e2 : ¬ q = 100 + j := by omega
      have e3 : ¬ 100 + q = j := by omega
      have e4 : ¬ 100 + q = 100 + j := by omega
      simp [va_up, r_e, hq, e, upd, e2, e3, e4]
theorem r_e_1 {g : Nat → Int32} {j : Nat} (hj : j < 25) : va_up (r_e true G 1 g) j (some (G 4 j)) = r_e true G 1 (upd g (100 + j) 1) := by
  funext q
  by_cases hq : q = j
  · subst hq
    have e1 : Nat.ble 50 q = false := by
      cases e : Nat.ble 50 q with
      | false => rfl
      | true => exact absurd (Nat.le_of_ble_eq_true e) (by omega)
    simp [va_up, r_e, e1, upd, k_e]
  · cases e : Nat.ble 50 q with
    | true => simp [va_up, r_e, hq, e]
    | false =>
      have e4 : ¬ 100 + q = 100 + j := by omega
      simp [va_up, r_e, hq, e, upd, e4, k_e]
theorem si_aastore (hC : C_X p R s m args meth c D ty G b z0 n L xs mi) (hs0 : s.heap.size = z0 + c0) (hc0 : c0 ≤ M.2.2) (hd : decode (m_B mi) pc = .ok (.aastore, 1)) (h : o_RIR st (f_ast cs n pc ll M) = some (true, S')) (k : A_W p l e R s m args below meth c Q D ty G z0 cs n (m_L mi) c0 S') : A_W p l e R s m args below meth c Q D ty G z0 cs n (m_L mi) c0 (pc, ll, st, M) := by
  obtain ⟨q2, x', q, r, rfl, hh⟩ := o_RIR_inv h
  clear h
  have h := hh
  clear hh
  unfold f_ast at h
  split at h
  · rename_i hk
    have hk : q.1 = 3 := Nat.eq_of_beq_eq_true hk
    obtain ⟨q1, qi⟩ := q
    dsimp only at hk h
    subst hk
    obtain ⟨h1, rfl⟩ := Prod.mk.inj (Option.some.inj h)
    rw [Bool.and_eq_true, Bool.and_eq_true] at h1
    obtain ⟨h1, h2, h3⟩ := h1
    obtain ⟨qk2, qo⟩ := q2
    have h2' : qk2 = 12 := Nat.eq_of_beq_eq_true h2
    have h3' : qo ≤ 24 := Nat.le_of_ble_eq_true h3
    clear h2 h3
    have h3 := h3'
    subst h2'
    intro H locs ls hR
    obtain ⟨hP, hD, hS, hz, hle, hl, hv, hw⟩ := hR
    obtain ⟨pp, hpp⟩ := List.getElem?_of_mem (key_a (v_h (v_t (v_t hv))) (Nat.le_of_ble_eq_true rfl))
    obtain ⟨pk, hpk⟩ := List.getElem?_of_mem (key_o (v_h hv) (Nat.le_of_ble_eq_true rfl))
    have hlt : ix x' < 25 := Nat.not_le.mp fun z => i_b_in h1 (Or.inr z)
    refine va_astq (r := (R_o 2, T_o 2, N_c 2)) hC.1 hC.2.1 hC.2.2.2.2.2.1 hP hD (va_S_here hS) pp 3 pk 2 (by rw [w_get hpp, c_e_r (Or.inr rfl)]; rfl) rfl (by rw [w_get hpk, c_e_o (Nat.le_of_ble_eq_true rfl)]; rfl) (cl_at 2 (by decide)) (i_b_in h1) hd (fun H1 locs1 hP1 hD1 hS1 => ?_)
    have e1 : (cond cs (m_wr (m_wr M 3 qi (ix x') (nI qo)) 3 qi (100 + ix x') 1) (m_wr M 3 qi (ix x') (nI qo))).2.2 = M.2.2 := by
      cases cs with
      | true => rw [cond_true, m_wr_c, m_wr_c]
      | false => rw [cond_false, m_wr_c]
    have e2 : (w_l cs n ty G M).set pp (G 3 qi, .inl (ty 3, k_n n 3, .inr (.inr (.inr (.inr (va_up (r_e cs G 3 (m_rd M 3 qi)) x'.toNatClampNeg (some (G 12 qo)))))))) = w_l cs n ty G (cond cs (m_wr (m_wr M 3 qi (ix x') (nI qo)) 3 qi (100 + ix x') 1) (m_wr M 3 qi (ix x') (nI qo))) := by
      cases cs with
      | true =>
        refine w_setG (g := upd (upd (m_rd M 3 qi) (ix x') (nI qo)) (100 + ix x') 1) hD hpp e1 (fun k' i' => ?_) ?_
        · show m_rd (m_wr (m_wr M 3 qi (ix x') (nI qo)) 3 qi (100 + ix x') 1) k' i' = _
          rw [m_rd_wr, m_rd_wr M 3 qi (ix x') (nI qo) 3 qi, if_pos (⟨rfl, rfl⟩ : 3 = 3 ∧ qi = qi), m_rd_wr]
          by_cases hz2 : k' = 3 ∧ i' = qi
          · rw [if_pos hz2, if_pos hz2]
          · rw [if_neg hz2, if_neg hz2, if_neg hz2]
        · rw [c_e_r (Or.inr rfl), ← r_e_3t h3 hlt]
          rfl
      | false =>
        refine w_setG (g := upd (m_rd M 3 qi) (ix x') (nI qo)) hD hpp e1 (fun k' i' => ?_) ?_
        · exact m_rd_wr M 3 qi (ix x') (nI qo) k' i'
        · rw [c_e_r (Or.inr rfl), ← r_e_3f h3 hlt]
          rfl
    have hP2 : va_P D am_cl ((w_l cs n ty G M).set pp (G 3 qi, .inl (ty 3, k_n n 3, .inr (.inr (.inr (.inr (va_up (r_e cs G 3 (m_rd M 3 qi)) x'.toNatClampNeg (some (G 12 qo))))))))) H1 := hP1
    have hD2 : va_D (fun q => z0 ≤ q) ((w_l cs n ty G M).set pp (G 3 qi, .inl (ty 3, k_n n 3, .inr (.inr (.inr (.inr (va_up (r_e cs G 3 (m_rd M 3 qi)) x'.toNatClampNeg (some (G 12 qo))))))))) := hD1
    rw [e2] at hP2 hD2
    refine W_size (fun hsz2 => ?_)
    have kk := k H1 locs1 ls
    have hsz := hS1.1
    dsimp only at kk hz hle hsz2
    rw [e1] at kk
    exact kk ⟨hP2, hD2, va_S_tr hS hS1, by rw [e1]; omega, by dsimp only; rw [e1]; exact hle, hl, by dsimp only; rw [e1]; exact v_t (v_t (v_t hv)), by dsimp only; rw [e1]; exact hw⟩
  · split at h
    · rename_i hk
      have hk : q.1 = 1 := Nat.eq_of_beq_eq_true hk
      obtain ⟨q1, qi⟩ := q
      dsimp only at hk h
      subst hk
      obtain ⟨h1, rfl⟩ := Prod.mk.inj (Option.some.inj h)
      rw [Bool.and_eq_true, Bool.and_eq_true] at h1
      obtain ⟨rfl, h1, h2⟩ := h1
      have h2 := of_decide_eq_true h2
      subst h2
      intro H locs ls hR
      obtain ⟨hP, hD, hS, hz, hle, hl, hv, hw⟩ := hR
      obtain ⟨pp, hpp⟩ := List.getElem?_of_mem (key_a (v_h (v_t (v_t hv))) (Nat.le_of_ble_eq_true rfl))
      obtain ⟨pk, hpk⟩ := List.getElem?_of_mem (key_o (v_h hv) (Nat.le_of_ble_eq_true rfl))
      have hn6 := C_n hC
      have hlt0 : ix x' < n := Nat.not_le.mp fun z => i_b_in h1 (Or.inr z)
      have hlt : ix x' < 25 := by omega
      refine va_astq (r := (R_o 3, T_o 3, N_c 3)) hC.1 hC.2.1 hC.2.2.2.2.2.1 hP hD (va_S_here hS) pp 2 pk 3 (by rw [w_get hpp, c_e_r (Or.inl rfl)]; rfl) rfl (by rw [w_get hpk, c_e_o (Nat.le_of_ble_eq_true rfl)]; rfl) (cl_at 3 (by decide)) (i_b_in h1) hd (fun H1 locs1 hP1 hD1 hS1 => ?_)
      have e1 := m_wr_c M 1 qi (100 + ix x') 1
      have e2 : (w_l true n ty G M).set pp (G 1 qi, .inl (ty 2, k_n n 1, .inr (.inr (.inr (.inr (va_up (r_e true G 1 (m_rd M 1 qi)) x'.toNatClampNeg (some (G 4 (ix x'))))))))) = w_l true n ty G (m_wr M 1 qi (100 + ix x') 1) := by
        refine w_setG (g := upd (m_rd M 1 qi) (100 + ix x') 1) hD hpp e1 (fun k' i' => m_rd_wr M 1 qi (100 + ix x') 1 k' i') ?_
        rw [c_e_r (Or.inl rfl), ← r_e_1 hlt]
        rfl
      have hP2 : va_P D am_cl ((w_l true n ty G M).set pp (G 1 qi, .inl (ty 2, k_n n 1, .inr (.inr (.inr (.inr (va_up (r_e true G 1 (m_rd M 1 qi)) x'.toNatClampNeg (some (G 4 (ix x')))))))))) H1 := hP1
      have hD2 : va_D (fun q => z0 ≤ q) ((w_l true n ty G M).set pp (G 1 qi, .inl (ty 2, k_n n 1, .inr (.inr (.inr (.inr (va_up (r_e true G 1 (m_rd M 1 qi)) x'.toNatClampNeg (some (G 4 (ix x')))))))))) := hD1
      rw [e2] at hP2 hD2
      refine W_size (fun hsz2 => ?_)
      have kk := k H1 locs1 ls
      have hsz := hS1.1
      dsimp only at kk hz hle hsz2
      rw [e1] at kk
      exact kk ⟨hP2, hD2, va_S_tr hS hS1, by rw [e1]; omega, by dsimp only; rw [e1]; exact hle, hl, by dsimp only; rw [e1]; exact v_t (v_t (v_t hv)), by dsimp only; rw [e1]; exact hw⟩
    · cases h
theorem si_arraylength (hC : C_X p R s m args meth c D ty G b z0 n L xs mi) (hd : decode (m_B mi) pc = .ok (.arraylength, 1)) (h : o_R st (f_len n L pc ll M) = some (true, S')) (k : A_W p l e R s m args below meth c Q D ty G z0 cs n (m_L mi) c0 S') : A_W p l e R s m args below meth c Q D ty G z0 cs n (m_L mi) c0 (pc, ll, st, M) := by
  obtain ⟨q, r, rfl, hh⟩ := o_R_inv h
  clear h
  have h := hh
  clear hh
  unfold f_len at h
  split at h
  · rename_i hk
    have hk : q.1 = 50 := Nat.eq_of_beq_eq_true hk
    cases h
    intro H locs ls hR
    obtain ⟨hP, hD, hS, hz, hle, hl, hv, hw⟩ := hR
    have hq := key_s (C_n hC) (v_h hv) hk
    subst hq
    obtain ⟨g1, g2, g3⟩ := C_b hC
    refine va_slen hC.1 hC.2.1 g1 g2 g3 hS hd ?_
    exact k H locs ls ⟨hP, hD, hS, hz, hle, hl, v_c trivial (v_t hv), hw⟩
  · split at h
    · rename_i hk
      have hk : k_t q.1 ≤ 3 := Nat.le_of_ble_eq_true hk
      cases h
      intro H locs ls hR
      obtain ⟨hP, hD, hS, hz, hle, hl, hv, hw⟩ := hR
      obtain ⟨pp, hpp⟩ := List.getElem?_of_mem (key_a (v_h hv) hk)
      have fin := k H locs ls ⟨hP, hD, hS, hz, hle, hl, v_c trivial (v_t hv), hw⟩
      have hh : k_t q.1 = 0 ∨ k_t q.1 = 1 ∨ k_t q.1 = 2 ∨ k_t q.1 = 3 := by omega
      rcases hh with h0 | h0 | h0 | h0
      · exact va_alen (x := (k_n n q.1, .inl (m_rd M q.1 q.2))) hC.1 hC.2.1 hC.2.2.2.2.2.1 hP pp 0 (by rw [w_get hpp, c_e_i (by omega), h0]) rfl rfl hd fin
      · exact va_alen (x := (k_n n q.1, .inl (m_rd M q.1 q.2))) hC.1 hC.2.1 hC.2.2.2.2.2.1 hP pp 1 (by rw [w_get hpp, c_e_i (by omega), h0]) rfl rfl hd fin
      · exact va_alen (x := (k_n n q.1, .inr (.inr (.inr (.inr (r_e cs G q.1 (m_rd M q.1 q.2))))))) hC.1 hC.2.1 hC.2.2.2.2.2.1 hP pp 2 (by rw [w_get hpp, c_e_r (Or.inl h0), h0]) rfl rfl hd fin
      · exact va_alen (x := (k_n n q.1, .inr (.inr (.inr (.inr (r_e cs G q.1 (m_rd M q.1 q.2))))))) hC.1 hC.2.1 hC.2.2.2.2.2.1 hP pp 3 (by rw [w_get hpp, c_e_r (Or.inr h0), h0]) rfl rfl hd fin
    · cases h
theorem take_up {α : Type} {l : List α} {c1 c2 : Nat} {q : α} (h : c1 ≤ c2) (hq : q ∈ l.take c1) : q ∈ l.take c2 := by
  have e : l.take c1 = (l.take c2).take c1 := by rw [List.take_take, Nat.min_eq_left h]
  rw [e] at hq
  exact List.mem_of_mem_take hq
theorem o_up {c1 c2 : Nat} {v : aV} (h : c1 ≤ c2) (hv : o_v n c1 v) : o_v n c2 v := by
  rcases v with y | q | y
  · trivial
  · rcases hv with z | z
    · exact Or.inl (take_up h z)
    · exact Or.inr z
  · trivial
theorem key_n {c1 : Nat} {q : Nat × Nat} (h : (K_T n)[c1]? = some q) : q ∈ (K_T n).take (c1 + 1) := by
  refine List.mem_of_getElem? (i := c1) ?_
  rw [List.getElem?_take_of_lt (by omega)]
  exact h
/-- a new cell, whatever it is -/
theorem h_new (hC : C_X p R s m args meth c D ty G b z0 n L xs mi) {H H1 : Heap} {locs : List Loc} {ls : Array Slot} {q : Nat × Nat} {r : List aV} {pc1 cells slots : Nat} (hc0 : c0 ≤ M.2.2) (hq : (K_T n)[M.2.2]? = some q) (hcs : cs = true)
    (k : A_W p l e R s m args below meth c Q D ty G z0 cs n (m_L mi) c0 (pc1, ll, .inr (.inl q) :: r, m_al M q.1 q.2)) (hR : a_R D ty G z0 cs n s (m_L mi) (pc1, ll, r, M) H locs ls) (z1 : H1.size = z0 + M.2.2 + 1) (o1 : ∀ q, q < z0 + M.2.2 → H1[q]? = H[q]?) (hat : va_at D am_cl (z0 + M.2.2, c_e cs n ty G q.1 q.2 (fun _ => 0)) H1)
    (e1 : cells = M.2.2 - c0 + 1) (e2 : slots = s_l n M.2.2 - s_l n c0 + k_s n q.1) : W p l e R s m args below meth c H1 locs cells slots Q (F0 m pc1 ls (.ref (z0 + M.2.2) :: r.map (t_v G))) := by
  obtain ⟨hP, hD, hS, hz, hle, hl, hv, hw⟩ := hR
  dsimp only at hP hD hS hz hle hl hv hw
  have hG : G q.1 q.2 = z0 + M.2.2 := hC.2.2.2.2.2.2.2.2.2.1.1 _ _ hq
  have hlt := (List.getElem?_eq_some_iff.mp hq).1
  have ec := m_al_c M q.1 q.2
  have ew := w_al (cs := cs) (ty := ty) (G := G) (C_n hC) hq
  have hkp : ∀ (k : Nat) (y : Nat × va_E), (w_l cs n ty G M)[k]? = some y → H1[y.1]? = H[y.1]? := fun k y hy => o1 y.1 (by have := (hP k y hy).lt; omega)
  have kk := k H1 locs ls
  dsimp only at kk
  rw [ec] at kk
  refine W.cs (e1.trans (by omega)) (e2.trans ?_) (W.eq ?_ (kk ⟨?_, ?_, ?_, ?_, ?_, hl, ?_, ?_⟩))
  · have h3 := s_l_le (n := n) hc0
    rw [s_l_al hq]
    omega
  · show F0 m pc1 ls (.ref (z0 + M.2.2) :: r.map (t_v G)) = F0 m pc1 ls (.ref (G q.1 q.2) :: r.map (t_v G))
    rw [hG]
  · dsimp only
    rw [ew, hG]
    exact (hP.kept hkp).app (fun k y hy => by
      have hz2 : k < 1 := (List.getElem?_eq_some_iff.mp hy).1
      rw [show k = 0 by omega] at hy
      cases hy
      exact hat)
  · dsimp only
    rw [ew, hG]
    exact hD.push hP (by omega) (Nat.le_add_right _ _)
  · exact ⟨by have := hS.1; omega, fun y h1 h2 => (o1 y (by have := hS.1; omega)).trans (hS.2.1 y h1 h2), hS.2.2⟩
  · dsimp only
    omega
  · dsimp only
    exact ⟨by omega, fun h => by rw [hcs] at h; cases h⟩
  · dsimp only
    rw [ec]
    exact v_c (Or.inl (key_n hq)) (fun y hy => o_up (by omega) (hv y hy))
  · dsimp only
    rw [ec]
    exact fun y hy => o_up (by omega) (hw y hy)
theorem si_new (hC : C_X p R s m args meth c D ty G b z0 n L xs mi) (hc0 : c0 ≤ M.2.2) (hr : M.2.2 + 1 - c0 ≤ R.cells ∧ s_l n (M.2.2 + 1) - s_l n c0 ≤ R.slots) {idx : Nat} (hd : decode (m_B mi) pc = .ok (.new idx, 3)) (hi : (m_o mi, idx, a) ∈ C_T) (h : f_new cs n a pc ll st M = some (true, S')) (k : A_W p l e R s m args below meth c Q D ty G z0 cs n (m_L mi) c0 S') : A_W p l e R s m args below meth c Q D ty G z0 cs n (m_L mi) c0 (pc, ll, st, M) := by
  obtain ⟨f1, f3⟩ := C_ok _ hi
  dsimp only at f1 f3
  unfold f_new at h
  split at h
  · rename_i q hq
    split at h
    · rename_i hk
      have hk : k_c q.1 = a := Nat.eq_of_beq_eq_true hk
      subst hk
      obtain ⟨h1, rfl⟩ := Prod.mk.inj (Option.some.inj h)
      intro H locs ls hR
      have hz := hR.2.2.2.1
      dsimp only at hz
      have h2 := s_l_al hq
      have h3 := s_l_le (n := n) hc0
      have hks : k_s n q.1 = N_c (k_c q.1) := by
        unfold k_s
        have e : Nat.beq (k_c q.1) 9 = false := by
          cases e : Nat.beq (k_c q.1) 9 with
          | false => rfl
          | true => exact absurd (Nat.eq_of_beq_eq_true e) (by omega)
        rw [e]
        rfl
      have hts := hC.2.2.2.2.1
      obtain ⟨w1, w2, w3, w4, w5, w6⟩ := c_ok _ f1
      have hKn := hC.2.2.2.2.2.1.1 _ _ (cl_at _ f1)
      refine W.newcK hC.1 hC.2.1 hC.2.2.2.1 (hts _ f3) (hts _ w5) (hts _ w6) rfl hd (by dsimp only; omega) (by dsimp only; omega) hKn.2.1 hz fun H1 kC hkC e1 z1 o1 => ?_
      refine h_new hC hc0 hq h1 k hR z1 o1 ?_ rfl (by rw [hks])
      rw [c_e_o f1]
      refine ⟨_, cl_at _ f1, (u_born (t_f (k_c q.1)) hts w1 hKn hkC e1 w2).to (fun j hj => ?_)⟩
      have hj2 : j < (k_f q.1 q.2).length := by rw [kf_len _ f1]; exact hj
      show defaultValue _ = ((k_f q.1 q.2).mapIdx (f_v cs G fun _ => 0)).getD j .null
      rw [List.getD_eq_getElem?_getD, List.getElem?_mapIdx, List.getElem?_eq_getElem hj2]
      cases hf : (k_f q.1 q.2)[j] with
      | none =>
        rcases kf_tyi f1 (List.getElem?_eq_some_iff.mpr ⟨hj2, hf⟩) with ⟨q1, -⟩ | ⟨q1, -⟩ <;> rw [q1] <;> rfl
      | some z =>
        have q1 := kf_tyr f1 (List.getElem?_eq_some_iff.mpr ⟨hj2, hf⟩)
        have q2 : f_v cs G (fun _ => 0) j (some z) = .null := by rw [h1]; rfl
        show _ = f_v cs G (fun _ => 0) j (some z)
        rw [q2]
        cases q3 : t_f (k_c q.1) j <;> rw [q3] at q1 <;> first | rfl | cases q1
    · cases h
  · cases h
theorem si_newarray (hC : C_X p R s m args meth c D ty G b z0 n L xs mi) (hc0 : c0 ≤ M.2.2) (hr : M.2.2 + 1 - c0 ≤ R.cells ∧ s_l n (M.2.2 + 1) - s_l n c0 ≤ R.slots) {t : ArrayType} (hd : decode (m_B mi) pc = .ok (.newarray t, 2)) (hi : (newarray.typeOf t = .int ∧ a = 0) ∨ (newarray.typeOf t = .boolean ∧ a = 1)) (h : o_1 st (f_nwa cs n a (pc + 2) ll M) = some (true, S')) (k : A_W p l e R s m args below meth c Q D ty G z0 cs n (m_L mi) c0 S') : A_W p l e R s m args below meth c Q D ty G z0 cs n (m_L mi) c0 (pc, ll, st, M) := by
  obtain ⟨x', r, rfl, hh⟩ := o_1_inv h
  clear h
  have h := hh
  clear hh
  unfold f_nwa at h
  split at h
  · rename_i q hq
    split at h
    · rename_i hk
      have hk : k_t q.1 = a := Nat.eq_of_beq_eq_true hk
      obtain ⟨h1, rfl⟩ := Prod.mk.inj (Option.some.inj h)
      rw [Bool.and_eq_true] at h1
      obtain ⟨hcs, h1⟩ := h1
      have h1 := of_decide_eq_true h1
      subst h1
      intro H locs ls hR
      have hz := hR.2.2.2.1
      have hv := hR.2.2.2.2.2.2.1
      dsimp only at hz hv
      have h2 := s_l_al hq
      have h3 := s_l_le (n := n) hc0
      have hq43 : q.1 < 43 := K_k n (by have := C_n hC; omega) q (List.mem_of_getElem? hq)
      have hn50 : k_n n q.1 ≤ 50 := by
        have h8 : ∀ n, n < 7 → ∀ k, k < 43 → k_n n k ≤ 50 := by decide +kernel
        exact h8 n (by have := C_n hC; omega) _ hq43
      have hks : k_s n q.1 = k_n n q.1 := by
        unfold k_s
        rw [kt_kc (by omega : k_t q.1 ≤ 3)]
        rfl
      have hts := hC.2.2.2.2.1
      have hR' : a_R D ty G z0 cs n s (m_L mi) (pc + 2, ll, r, M) H locs ls := ⟨hR.1, hR.2.1, hR.2.2.1, hR.2.2.2.1, hR.2.2.2.2.1, hR.2.2.2.2.2.1, v_t hv, hR.2.2.2.2.2.2.2⟩
      rcases hi with ⟨ht, ha⟩ | ⟨ht, ha⟩
      · refine va_newaK hC.1 hC.2.1 (hts _ (by rw [ht]; exact tb_aI)) rfl hd rfl (nI_pos (by omega)) (nI_clamp (by omega)) (by rw [ht]; show _ * 4 ≤ _; omega) (by dsimp only; omega) (by dsimp only; omega) hz fun H1 cA e1 z1 o1 hAr hNm => ?_
        refine h_new hC hc0 hq hcs k hR' z1 o1 ?_ rfl (by rw [hks])
        rw [c_e_i (by omega), hk, ha]
        have e9 : cA = ty 0 := by
          rw [ht] at hNm
          exact Option.some.inj (hNm.symm.trans (hC.2.2.2.2.2.1.2 0 _ rfl).2)
        show H1[_]? = some (vp_cell _ _)
        rw [vp_cell_i, e1, ht, e9]
        rfl
      · refine va_newaK hC.1 hC.2.1 (hts _ (by rw [ht]; exact tb_aZ)) rfl hd rfl (nI_pos (by omega)) (nI_clamp (by omega)) (by rw [ht]; show _ * 1 ≤ _; omega) (by dsimp only; omega) (by dsimp only; omega) hz fun H1 cA e1 z1 o1 hAr hNm => ?_
        refine h_new hC hc0 hq hcs k hR' z1 o1 ?_ rfl (by rw [hks])
        rw [c_e_i (by omega), hk, ha]
        have e9 : cA = ty 1 := by
          rw [ht] at hNm
          exact Option.some.inj (hNm.symm.trans (hC.2.2.2.2.2.1.2 1 _ rfl).2)
        show H1[_]? = some (vp_cell _ _)
        rw [vp_cell_i, e1, ht, e9]
        rfl
    · cases h
  · cases h
theorem si_anewarray (hC : C_X p R s m args meth c D ty G b z0 n L xs mi) (hc0 : c0 ≤ M.2.2) (hr : M.2.2 + 1 - c0 ≤ R.cells ∧ s_l n (M.2.2 + 1) - s_l n c0 ≤ R.slots) {idx : Nat} (hd : decode (m_B mi) pc = .ok (.anewarray idx, 3)) (hi : (m_o mi, idx, a) ∈ Q_T) (h : o_1 st (f_nwa cs n a (pc + 3) ll M) = some (true, S')) (k : A_W p l e R s m args below meth c Q D ty G z0 cs n (m_L mi) c0 S') : A_W p l e R s m args below meth c Q D ty G z0 cs n (m_L mi) c0 (pc, ll, st, M) := by
  obtain ⟨f1, f3⟩ := Q_ok _ hi
  dsimp only at f1 f3
  obtain ⟨x', r, rfl, hh⟩ := o_1_inv h
  clear h
  have h := hh
  clear hh
  unfold f_nwa at h
  split at h
  · rename_i q hq
    split at h
    · rename_i hk
      have hk : k_t q.1 = a := Nat.eq_of_beq_eq_true hk
      obtain ⟨h1, rfl⟩ := Prod.mk.inj (Option.some.inj h)
      rw [Bool.and_eq_true] at h1
      obtain ⟨hcs, h1⟩ := h1
      have h1 := of_decide_eq_true h1
      subst h1
      intro H locs ls hR
      have hz := hR.2.2.2.1
      have hv := hR.2.2.2.2.2.2.1
      dsimp only at hz hv
      have h2 := s_l_al hq
      have h3 := s_l_le (n := n) hc0
      have hq43 : q.1 < 43 := K_k n (by have := C_n hC; omega) q (List.mem_of_getElem? hq)
      have hn50 : k_n n q.1 ≤ 50 := by
        have h8 : ∀ n, n < 7 → ∀ k, k < 43 → k_n n k ≤ 50 := by decide +kernel
        exact h8 n (by have := C_n hC; omega) _ hq43
      have hks : k_s n q.1 = k_n n q.1 := by
        unfold k_s
        rw [kt_kc (by omega : k_t q.1 ≤ 3)]
        rfl
      have hts := hC.2.2.2.2.1
      have hR' : a_R D ty G z0 cs n s (m_L mi) (pc + 3, ll, r, M) H locs ls := ⟨hR.1, hR.2.1, hR.2.2.1, hR.2.2.2.1, hR.2.2.2.2.1, hR.2.2.2.2.2.1, v_t hv, hR.2.2.2.2.2.2.2⟩
      have hcl : (nI (k_n n q.1)).toNatClampNeg = k_n n q.1 := nI_clamp (by omega)
      have fin : ∀ (C : String) (cA : ClassId), cA = ty a → W p l e R s m args below meth c (H.push ({ cls := cA, slots := Array.replicate (nI (k_n n q.1)).toNatClampNeg .null, vm := .none } : Cell)) locs (M.2.2 - c0 + 1) (s_l n M.2.2 - s_l n c0 + (nI (k_n n q.1)).toNatClampNeg) Q (F0 m (pc + 3) ls (.ref H.size :: r.map (t_v G))) := by
        intro C cA e9
        rw [hcl, hz]
        refine h_new hC hc0 hq hcs k hR' (by rw [Array.size_push, hz]) (fun y hy => by rw [Array.getElem?_push, if_neg (by omega)]) ?_ rfl (by rw [hks])
        rw [c_e_r (by omega), hk]
        show (H.push _)[_]? = some (vp_cell _ _)
        rw [vp_cell_q, ← hz, Array.getElem?_push_size, arrV_new, e9]
        congr 2
        funext j
        rw [hcs]
        unfold r_e
        cases Nat.ble 50 j <;> rfl
      rcases f1 with ha | ha
      · subst ha
        refine W.anew (C := R_o 3) hC.1 hC.2.1 hC.2.2.2.1 (hts _ f3) (va_AO.use hC.2.2.2.2.2.2.2.2.1.1) rfl hd rfl (nI_pos (by omega)) (by rw [hcl]; omega) (by dsimp only; omega) (by rw [hcl]; dsimp only; omega) fun cA kA comp g1 g2 g3 g4 => ?_
        obtain ⟨kA', comp', -, -, -, g5⟩ := (hC.2.2.2.2.2.1.2 2 _ rfl).2
        exact fin (R_o 3) cA (Option.some.inj (g1.symm.trans g5))
      · subst ha
        refine W.anew (C := R_o 2) hC.1 hC.2.1 hC.2.2.2.1 (hts _ f3) (va_AO.use hC.2.2.2.2.2.2.2.2.1.2) rfl hd rfl (nI_pos (by omega)) (by rw [hcl]; omega) (by dsimp only; omega) (by rw [hcl]; dsimp only; omega) fun cA kA comp g1 g2 g3 g4 => ?_
        obtain ⟨kA', comp', -, -, -, g5⟩ := (hC.2.2.2.2.2.1.2 3 _ rfl).2
        exact fin (R_o 2) cA (Option.some.inj (g1.symm.trans g5))
    · cases h
  · cases h
theorem si_objinit (hC : C_X p R s m args meth c D ty G b z0 n L xs mi) {idx : Nat} (hd : decode (m_B mi) pc = .ok (.invokespecial idx, 3)) (hi : Cond.methodLink (R_o (m_o mi)) idx objectInit ∈ am_tb) (h : o_R st (fun _ r => some (Nat.ble r.length 4, pc + 3, ll, r, M)) = some (true, S')) (k : A_W p l e R s m args below meth c Q D ty G z0 cs n (m_L mi) c0 S') : A_W p l e R s m args below meth c Q D ty G z0 cs n (m_L mi) c0 (pc, ll, st, M) := by
  obtain ⟨q, r, rfl, hh⟩ := o_R_inv h
  clear h
  have h := hh
  clear hh
  obtain ⟨h1, rfl⟩ := Prod.mk.inj (Option.some.inj h)
  have h1 : r.length ≤ 4 := Nat.le_of_ble_eq_true h1
  intro H locs ls hR
  obtain ⟨hP, hD, hS, hz, hle, hl, hv, hw⟩ := hR
  have hts := hC.2.2.2.2.1
  refine W.objInit hC.1 hC.2.1 hC.2.2.2.1 (hts _ hi) (hts _ tb_oi) (hts _ tb_oc) rfl (hl.1.trans hC.2.2.1.symm) rfl hd hC.2.2.2.2.2.2.2.2.2.2.1.1 ?_ ?_
  · have h2 := r_cat (G := G) r
    have h3 := hC.2.2.2.2.2.2.2.2.2.2.1.2
    show 2 * 0 + _ + 12 ≤ _
    omega
  · exact k H locs ls ⟨hP, hD, hS, hz, hle, hl, v_t hv, hw⟩
end SA
