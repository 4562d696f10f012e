theorem K_k : ∀ n, n < 7 → ∀ q ∈ K_T n, q.1 < 43 := by decide +kernel
theorem K_cl : ∀ n, n < 7 → ∀ q ∈ K_T n, ∀ d ∈ k_f q.1 q.2, (match d with
  | some q2 => decide (q2 ∈ K_T n)
  | none => true) = true := by decide +kernel
theorem kt_kc {k : Nat} (h : k_t k ≤ 3) : k_c k = 9 := by
  by_cases hk : k < 43
  · have : ∀ k, k < 43 → k_t k ≤ 3 → k_c k = 9 := by decide +kernel
    exact this k hk h
  · exfalso
    have e : k_t k = 9 := by
      unfold k_t
      rw [List.getD_eq_getElem?_getD, List.getElem?_eq_none (by simp; omega)]
      rfl
    omega
theorem kc_in {k : Nat} (h : k_c k < 6) : k = 0 ∨ k = 2 ∨ k = 4 ∨ k = 8 ∨ k = 12 ∨ k = 20 := by
  by_cases hk : k < 21
  · have : ∀ k, k < 21 → k_c k < 6 → (k = 0 ∨ k = 2 ∨ k = 4 ∨ k = 8 ∨ k = 12 ∨ k = 20) := by decide +kernel
    exact this k hk h
  · exfalso
    have e : k_c k = 9 := by
      unfold k_c
      rw [List.getD_eq_getElem?_getD, List.getElem?_eq_none (by simp; omega)]
      rfl
    omega
theorem kf_m {k : Nat} (i : Nat) (h : k_c k < 6) : (k_f k i).map Option.isSome = (k_f k 0).map Option.isSome := by
  rcases kc_in h with rfl | rfl | rfl | rfl | rfl | rfl <;> rfl
theorem kf_len {k : Nat} (i : Nat) (h : k_c k < 6) : (k_f k i).length = N_c (k_c k) := by
  rcases kc_in h with rfl | rfl | rfl | rfl | rfl | rfl <;> rfl
def kf_b (k f : Nat) : Bool := match ((k_f k 0).map Option.isSome)[f]? with
  | some false => (decide (t_f (k_c k) f = .int) && !(z_F (k_c k) f)) || (decide (t_f (k_c k) f = .boolean) && z_F (k_c k) f)
  | some true => (t_f (k_c k) f).isReference
  | none => true
theorem kf_ty0 : ∀ k, k < 21 → k_c k < 6 → ∀ f, f < 24 → kf_b k f = true := by decide +kernel
theorem kf_ty (k : Nat) (h1 : k < 21) (h2 : k_c k < 6) (f : Nat) (h3 : f < 24) : (((k_f k 0).map Option.isSome)[f]? = some false → ((t_f (k_c k) f = .int ∧ z_F (k_c k) f = false) ∨ (t_f (k_c k) f = .boolean ∧ z_F (k_c k) f = true))) ∧ (((k_f k 0).map Option.isSome)[f]? = some true → (t_f (k_c k) f).isReference = true) := by
  have h := kf_ty0 k h1 h2 f h3
  unfold kf_b at h
  constructor
  · intro e
    rw [e] at h
    simpa using h
  · intro e
    rw [e] at h
    exact h
theorem kf_tyi {k i f : Nat} (h : k_c k < 6) (hf : (k_f k i)[f]? = some none) : (t_f (k_c k) f = .int ∧ z_F (k_c k) f = false) ∨ (t_f (k_c k) f = .boolean ∧ z_F (k_c k) f = true) := by
  have hl := (List.getElem?_eq_some_iff.mp hf).1
  have hN : N_c (k_c k) ≤ 24 := by rcases kc_in h with rfl | rfl | rfl | rfl | rfl | rfl <;> decide
  have h21 : k < 21 := by rcases kc_in h with rfl | rfl | rfl | rfl | rfl | rfl <;> decide
  rw [kf_len i h] at hl
  refine (kf_ty k h21 h f (by omega)).1 ?_
  rw [← kf_m i h, List.getElem?_map, hf]
  rfl
theorem kf_tyr {k i f : Nat} {q : Nat × Nat} (h : k_c k < 6) (hf : (k_f k i)[f]? = some (some q)) : (t_f (k_c k) f).isReference = true := by
  have hl := (List.getElem?_eq_some_iff.mp hf).1
  have hN : N_c (k_c k) ≤ 24 := by rcases kc_in h with rfl | rfl | rfl | rfl | rfl | rfl <;> decide
  have h21 : k < 21 := by rcases kc_in h with rfl | rfl | rfl | rfl | rfl | rfl <;> decide
  rw [kf_len i h] at hl
  refine (kf_ty k h21 h f (by omega)).2 ?_
  rw [← kf_m i h, List.getElem?_map, hf]
  rfl
theorem c_e_o {cs : Bool} {n : Nat} {ty : Nat → ClassId} {G : Nat → Nat → Nat} {k i : Nat} {g : Nat → Int32} (h : k_c k < 6) : c_e cs n ty G k i g = .inr (k_c k, (k_f k i).mapIdx (f_v cs G g)) := by
  unfold c_e
  have e : Nat.beq (k_c k) 9 = false := by
    cases e : Nat.beq (k_c k) 9 with
    | false => rfl
    | true => exact absurd (Nat.eq_of_beq_eq_true e) (by omega)
  rw [e]
  rfl
theorem c_e_i {cs : Bool} {n : Nat} {ty : Nat → ClassId} {G : Nat → Nat → Nat} {k i : Nat} {g : Nat → Int32} (h : k_t k ≤ 1) : c_e cs n ty G k i g = .inl (ty (k_t k), k_n n k, .inl g) := by
  unfold c_e
  rw [kt_kc (by omega : k_t k ≤ 3), Nat.ble_eq_true_of_le h]
  rfl
theorem c_e_r {cs : Bool} {n : Nat} {ty : Nat → ClassId} {G : Nat → Nat → Nat} {k i : Nat} {g : Nat → Int32} (h : k_t k = 2 ∨ k_t k = 3) : c_e cs n ty G k i g = .inl (ty (k_t k), k_n n k, .inr (.inr (.inr (.inr (r_e cs G k g))))) := by
  unfold c_e
  have e : Nat.ble (k_t k) 1 = false := by
    rcases h with h | h <;> rw [h] <;> rfl
  rw [kt_kc (by omega : k_t k ≤ 3), e]
  rfl
theorem fs_int {cs : Bool} {G : Nat → Nat → Nat} {k i f : Nat} {g : Nat → Int32} {y : Int32} (h : k_c k < 6) (hf : (k_f k i)[f]? = some none) : ((k_f k i).mapIdx (f_v cs G g)).set f (.int y) = (k_f k i).mapIdx (f_v cs G (upd g f y)) := by
  have hl := (List.getElem?_eq_some_iff.mp hf).1
  have hN : N_c (k_c k) ≤ 24 := by rcases kc_in h with rfl | rfl | rfl | rfl | rfl | rfl <;> decide
  have hl2 := hl
  rw [kf_len i h] at hl2
  refine List.ext_getElem? fun q => ?_
  by_cases hq : q = f
  · subst hq
    rw [List.getElem?_set_self (by rw [List.length_mapIdx]; exact hl), List.getElem?_mapIdx, hf]
    simp [f_v, upd]
  · rw [List.getElem?_set_ne (fun z => hq z.symm), List.getElem?_mapIdx, List.getElem?_mapIdx]
    cases hd : (k_f k i)[q]? with
    | none => rfl
    | some d =>
      cases d with
      | none => simp [f_v, upd, hq]
      | some z =>
        have h1 : ¬ 100 + q = f := by omega
        simp [f_v, upd, h1]
theorem fs_ref {G : Nat → Nat → Nat} {k i f : Nat} {g : Nat → Int32} {q2 : Nat × Nat} (h : k_c k < 6) (hf : (k_f k i)[f]? = some (some q2)) : ((k_f k i).mapIdx (f_v true G g)).set f (.ref (G q2.1 q2.2)) = (k_f k i).mapIdx (f_v true G (upd g (100 + f) 1)) := by
  have hl := (List.getElem?_eq_some_iff.mp hf).1
  have hN : N_c (k_c k) ≤ 24 := by rcases kc_in h with rfl | rfl | rfl | rfl | rfl | rfl <;> decide
  have hl2 := hl
  rw [kf_len i h] at hl2
  refine List.ext_getElem? fun q => ?_
  by_cases hq : q = f
  · subst hq
    rw [List.getElem?_set_self (by rw [List.length_mapIdx]; exact hl), List.getElem?_mapIdx, hf]
    simp [f_v, upd]
  · rw [List.getElem?_set_ne (fun z => hq z.symm), List.getElem?_mapIdx, List.getElem?_mapIdx]
    cases hd : (k_f k i)[q]? with
    | none => rfl
    | some d =>
      cases d with
      | none =>
        have hl3 := (List.getElem?_eq_some_iff.mp hd).1
        rw [kf_len i h] at hl3
        have h1 : ¬ q = 100 + f := by omega
        simp [f_v, upd, h1]
      | some z =>
        simp [f_v, upd, hq]
section SH
variable {p : Program} {l : Launch} {e : Env} {R : Room} {s : State} {m : MethodId} {args : Array Value} {below : List Frame} {meth : Method} {c : Code} {Q : State → Prop} {D : va_G} {ty : Nat → ClassId} {G : Nat → Nat → Nat} {b z0 : Nat} {cs : Bool} {n L : Nat} {xs : Nat → Int32} {mi c0 pc a bb : Nat} {x : Int32} {ll : List (Option aV)} {st : List aV} {M : aM} {S' : aS}
theorem key_o {q : Nat × Nat} (h : o_v n c0 (.inr (.inl q))) (hk : k_c q.1 < 6) : q ∈ (K_T n).take c0 := by
  rcases h with z | z
  · exact z
  · subst z
    exact absurd hk (by decide)
theorem key_a {q : Nat × Nat} (h : o_v n c0 (.inr (.inl q))) (hk : k_t q.1 ≤ 3) : q ∈ (K_T n).take c0 := by
  rcases h with z | z
  · exact z
  · subst z
    exact absurd hk (by decide)
theorem si_getfield (hC : C_X p R s m args meth c D ty G b z0 n L xs mi) {idx : Nat} (hd : decode (m_B mi) pc = .ok (.getfield idx, 3)) (hi : (m_o mi, idx, a, bb) ∈ F_T) (h : o_R st (f_G cs n a bb pc ll M) = some (true, S')) (k : A_W p l e R s m args below meth c Q D ty G z0 cs n (m_L mi) c0 S') : A_W p l e R s m args below meth c Q D ty G z0 cs n (m_L mi) c0 (pc, ll, st, M) := by
  obtain ⟨q, r, rfl, hh⟩ := o_R_inv h
  clear h
  have h := hh
  clear hh
  obtain ⟨f1, f2, f3⟩ := F_ok _ hi
  dsimp only at f1 f2 f3
  unfold f_G at h
  split at h
  · rename_i hk
    have hk : k_c q.1 = a := Nat.eq_of_beq_eq_true hk
    subst hk
    split at h
    · rename_i hf
      cases h
      intro H locs ls hR
      obtain ⟨hP, hD, hS, hz, hle, hl, hv, hw⟩ := hR
      obtain ⟨pp, hpp⟩ := List.getElem?_of_mem (key_o (v_h hv) f1)
      refine va_get (ref := R_o (k_c q.1)) (v := .int (m_rd M q.1 q.2 bb)) hC.1 hC.2.1 hC.2.2.2.2.1 (c_ok _ f1).1 hC.2.2.2.1 hC.2.2.2.2.2.1 hP pp (by rw [w_get hpp, c_e_o f1]) (cl_at _ f1) bb f2 (hC.2.2.2.2.1 _ f3) (fun x hx => by rw [← (c_ok _ f1).2.2.2.1 bb f2]; exact hx) (by rw [List.getElem?_mapIdx, hf]; rfl) hd ?_
      exact k H locs ls ⟨hP, hD, hS, hz, hle, hl, v_c trivial (v_t hv), hw⟩
    · rename_i q2 hf
      obtain ⟨h1, rfl⟩ := Prod.mk.inj (Option.some.inj h)
      intro H locs ls hR
      obtain ⟨hP, hD, hS, hz, hle, hl, hv, hw⟩ := hR
      have hq := key_o (v_h hv) f1
      obtain ⟨pp, hpp⟩ := List.getElem?_of_mem hq
      have hval : f_v cs G (m_rd M q.1 q.2) bb (some q2) = .ref (G q2.1 q2.2) := by
        cases cs with
        | false => rfl
        | true =>
          simp only [Bool.not_true, Bool.false_or, Bool.and_eq_true, Bool.not_eq_true', decide_eq_false_iff_not] at h1
          simp [f_v, h1.1]
      have hq2 : q2 ∈ (K_T n).take M.2.2 := by
        cases cs with
        | false =>
          have e1 := hle.2 rfl
          dsimp only at e1
          rw [e1, List.take_length] at hq ⊢
          have := K_cl n (by have := hC.2.2.2.2.2.2.2.2.2.1.2.2; omega) q hq _ (List.mem_of_getElem? hf)
          simpa using this
        | true =>
          simp only [Bool.not_true, Bool.false_or, Bool.and_eq_true, decide_eq_true_eq] at h1
          exact h1.2
      refine va_get (ref := R_o (k_c q.1)) (v := .ref (G q2.1 q2.2)) hC.1 hC.2.1 hC.2.2.2.2.1 (c_ok _ f1).1 hC.2.2.2.1 hC.2.2.2.2.2.1 hP pp (by rw [w_get hpp, c_e_o f1]) (cl_at _ f1) bb f2 (hC.2.2.2.2.1 _ f3) (fun x hx => by rw [← (c_ok _ f1).2.2.2.1 bb f2]; exact hx) (by rw [List.getElem?_mapIdx, hf]; exact congrArg some hval) hd ?_
      exact k H locs ls ⟨hP, hD, hS, hz, hle, hl, v_c (Or.inl hq2) (v_t hv), hw⟩
    · cases h
  · cases h
/-- a field is written: the row for one that is final, and for one that isn't -/
theorem h_put (hC : C_X p R s m args meth c D ty G b z0 n L xs mi) {H : Heap} {locs : List Loc} {cells slots idx pp : Nat} {ls : Array Slot} {rest : List Value} {q : Nat × Nat} {vv : Value} {M' : aM} {g : Nat → Int32} (hd : decode (m_B mi) pc = .ok (.putfield idx, 3)) (hi : (m_o mi, idx, k_c q.1, bb) ∈ F_T) (hfin : (T_o (k_c q.1) bb).2.2.2 = true → m_k mi = 2 ∧ m_o mi = k_c q.1)
    (hP : va_P D am_cl (w_l cs n ty G M) H) (hD : va_D (fun q => z0 ≤ q) (w_l cs n ty G M)) (hS : va_S (fun q => z0 ≤ q) s.heap H locs) (hpp : ((K_T n).take M.2.2)[pp]? = some q) (hn : narrow (t_f (k_c q.1) bb) vv = vv) (hfit : fits (t_f (k_c q.1) bb) vv = true)
    (hM : M'.2.2 = M.2.2) (hg : ∀ k' i', m_rd M' k' i' = if k' = q.1 ∧ i' = q.2 then g else m_rd M k' i') (hset : ((k_f q.1 q.2).mapIdx (f_v cs G (m_rd M q.1 q.2))).set bb vv = (k_f q.1 q.2).mapIdx (f_v cs G g))
    (k : ∀ (H1 : Heap) (locs1 : List Loc), va_P D am_cl (w_l cs n ty G M') H1 → va_D (fun q => z0 ≤ q) (w_l cs n ty G M') → va_S (fun q => z0 ≤ q) s.heap H1 locs1 → H.size ≤ H1.size → W p l e R s m args below meth c H1 locs1 cells slots Q (F0 m (pc + 3) ls rest)) : W p l e R s m args below meth c H locs cells slots Q (F0 m pc ls (vv :: .ref (G q.1 q.2) :: rest)) := by
  obtain ⟨f1, f2, f3⟩ := F_ok _ hi
  dsimp only at f1 f2 f3
  have hl : bb < ((k_f q.1 q.2).mapIdx (f_v cs G (m_rd M q.1 q.2))).length := by
    rw [List.length_mapIdx, kf_len _ f1]
    exact f2
  have kk : ∀ (H1 : Heap) (locs1 : List Loc), va_P D am_cl ((w_l cs n ty G M).set pp (G q.1 q.2, .inr (k_c q.1, ((k_f q.1 q.2).mapIdx (f_v cs G (m_rd M q.1 q.2))).set bb vv))) H1 → va_D (fun q => z0 ≤ q) ((w_l cs n ty G M).set pp (G q.1 q.2, .inr (k_c q.1, ((k_f q.1 q.2).mapIdx (f_v cs G (m_rd M q.1 q.2))).set bb vv))) → va_S (fun q => z0 ≤ q) H H1 locs1 → W p l e R s m args below meth c H1 locs1 cells slots Q (F0 m (pc + 3) ls rest) := by
    intro H1 locs1 hP1 hD1 hS1
    rw [w_setG (k := q.1) (i := q.2) hD hpp hM hg (by rw [c_e_o f1, hset])] at hP1 hD1
    exact k H1 locs1 hP1 hD1 (va_S_tr hS hS1) hS1.1
  cases hfi : (T_o (k_c q.1) bb).2.2.2 with
  | false => exact va_put (ref := R_o (k_c q.1)) hC.1 hC.2.1 hC.2.2.2.2.1 (c_ok _ f1).1 (t_f (k_c q.1)) (c_ok _ f1).2.1 (c_ok _ f1).2.2.1 hC.2.2.2.1 hC.2.2.2.2.2.1 hP hD (va_S_here hS) pp (by rw [w_get hpp, c_e_o f1]) (cl_at _ f1) bb f2 (hC.2.2.2.2.1 _ f3) (fun x hx => by rw [← (c_ok _ f1).2.2.2.1 bb f2]; exact hx) hfi ((c_ok _ f1).2.1 bb f2) hn hfit hl hd kk
  | true =>
    obtain ⟨g1, g2⟩ := hfin hfi
    exact va_putF (ref := R_o (k_c q.1)) hC.1 hC.2.1 hC.2.2.2.2.1 (c_ok _ f1).1 (t_f (k_c q.1)) (c_ok _ f1).2.1 (c_ok _ f1).2.2.1 hC.2.2.2.1 hC.2.2.2.2.2.1 hP hD (va_S_here hS) pp (by rw [w_get hpp, c_e_o f1]) (cl_at _ f1) bb f2 (hC.2.2.2.2.1 _ f3) (fun x hx => by rw [← (c_ok _ f1).2.2.2.1 bb f2]; exact hx) hfi (hC.2.2.2.2.2.2.2.2.2.2.2 g1) (by rw [(c_ok _ f1).2.2.2.1 bb f2, g2]) ((c_ok _ f1).2.1 bb f2) hn hfit hl hd kk
theorem si_putfield (hC : C_X p R s m args meth c D ty G b z0 n L xs mi) (hs0 : s.heap.size = z0 + c0) (hc0 : c0 ≤ M.2.2) {idx : Nat} (hd : decode (m_B mi) pc = .ok (.putfield idx, 3)) (hi : (m_o mi, idx, a, bb) ∈ F_T) (hfin : (T_o a bb).2.2.2 = true → m_k mi = 2 ∧ m_o mi = a) (h : f_put cs a bb pc ll M st = some (true, S')) (k : A_W p l e R s m args below meth c Q D ty G z0 cs n (m_L mi) c0 S') : A_W p l e R s m args below meth c Q D ty G z0 cs n (m_L mi) c0 (pc, ll, st, M) := by
  obtain ⟨f1, f2, f3⟩ := F_ok _ hi
  dsimp only at f1 f2 f3
  unfold f_put at h
  split at h
  · rename_i y q r
    unfold f_P at h
    split at h
    · rename_i hk
      have hk : k_c q.1 = a := Nat.eq_of_beq_eq_true hk
      subst hk
      split at h
      · rename_i hf
        obtain ⟨h1, rfl⟩ := Prod.mk.inj (Option.some.inj h)
        intro H locs ls hR
        obtain ⟨hP, hD, hS, hz, hle, hl, hv, hw⟩ := hR
        obtain ⟨pp, hpp⟩ := List.getElem?_of_mem (key_o (v_h (v_t hv)) f1)
        have ht : narrow (t_f (k_c q.1) bb) (.int y) = .int y ∧ fits (t_f (k_c q.1) bb) (.int y) = true := by
          rcases kf_tyi f1 hf with ⟨e1, e2⟩ | ⟨e1, e2⟩
          · rw [e1]
            exact ⟨rfl, rfl⟩
          · rw [e2] at h1
            rw [e1]
            rcases b_01_or (by simpa using h1) with rfl | rfl <;> exact ⟨by decide, by decide⟩
        refine h_put hC hd hi hfin hP hD hS hpp ht.1 ht.2 (m_wr_c M q.1 q.2 bb y) (fun k' i' => m_rd_wr M q.1 q.2 bb y k' i') (fs_int f1 hf) (fun H1 locs1 hP1 hD1 hS1 hsz => ?_)
        refine W_size (fun hsz2 => ?_)
        have e1 := m_wr_c M q.1 q.2 bb y
        have kk := k H1 locs1 ls
        dsimp only at kk hz hle hsz2
        rw [e1] at kk
        exact kk ⟨hP1, hD1, hS1, by rw [e1]; omega, by dsimp only; rw [e1]; exact hle, hl, by dsimp only; rw [e1]; exact v_t (v_t hv), by dsimp only; rw [e1]; exact hw⟩
      · cases h
    · cases h
  · rename_i q2 q r
    unfold f_Q at h
    split at h
    · rename_i hk
      have hk : k_c q.1 = a := Nat.eq_of_beq_eq_true hk
      subst hk
      split at h
      · rename_i q3 hf
        obtain ⟨h1, rfl⟩ := Prod.mk.inj (Option.some.inj h)
        simp only [Bool.and_eq_true, decide_eq_true_eq] at h1
        obtain ⟨rfl, rfl⟩ := h1
        intro H locs ls hR
        obtain ⟨hP, hD, hS, hz, hle, hl, hv, hw⟩ := hR
        obtain ⟨pp, hpp⟩ := List.getElem?_of_mem (key_o (v_h (v_t hv)) f1)
        have ht : narrow (t_f (k_c q.1) bb) (.ref (G q2.1 q2.2)) = .ref (G q2.1 q2.2) ∧ fits (t_f (k_c q.1) bb) (.ref (G q2.1 q2.2)) = true := by
          have h3 := kf_tyr f1 hf
          cases h4 : t_f (k_c q.1) bb <;> rw [h4] at h3 <;> first | exact ⟨rfl, rfl⟩ | cases h3
        refine h_put hC hd hi hfin hP hD hS hpp ht.1 ht.2 (m_wr_c M q.1 q.2 (100 + bb) 1) (fun k' i' => m_rd_wr M q.1 q.2 (100 + bb) 1 k' i') (fs_ref f1 hf) (fun H1 locs1 hP1 hD1 hS1 hsz => ?_)
        refine W_size (fun hsz2 => ?_)
        have e1 := m_wr_c M q.1 q.2 (100 + bb) 1
        have kk := k H1 locs1 ls
        dsimp only at kk hz hle hsz2
        rw [e1] at kk
        exact kk ⟨hP1, hD1, hS1, by rw [e1]; omega, by dsimp only; rw [e1]; exact hle, hl, by dsimp only; rw [e1]; exact v_t (v_t hv), by dsimp only; rw [e1]; exact hw⟩
      · cases h
    · cases h
  · cases h
end SH
