/-! CALLS, PATHS, METHODS -/
def n_L (v : aV) : Bool := match v with
  | .inr (.inr _) => false
  | _ => true
def r_c (mj : Nat) (av : List aV) : Bool := match av with
  | .inr (.inl q) :: _ => Nat.beq (k_c q.1) (m_o mj)
  | _ => false
def c_b (mj : Nat) (st : List aV) : Bool := Nat.ble (m_na mj) st.length && (Nat.ble (st.length - m_na mj) 4 && ((st.take (m_na mj)).all n_L && (Nat.beq (m_k mj) 1 || r_c mj (st.take (m_na mj)).reverse)))
def c_A (mj : Nat) (st : List aV) : Option (Bool × Nat × List aV × List aV) := some (c_b mj st, mj, (st.take (m_na mj)).reverse, st.drop (m_na mj))
def c_I (i : Instr) (a : Nat) (st : List aV) : Option (Bool × Nat × List aV × List aV) := match i with
  | .invokevirtual _ => c_A a st
  | .invokestatic _ => c_A a st
  | .invokespecial _ => (match Nat.beq a 999 with
    | true => none
    | false => c_A a st)
  | _ => none
def c_F (cd : Nat → Option aI) (S : aS) : Option (Bool × Nat × List aV × List aV) := match cd S.1 with
  | none => none
  | some e => c_I e.1 e.2.1 S.2.2.1
def r_I (i : Instr) (a : Nat) (st : List aV) (M : aM) : Option (Bool × Option aV × aM) := match i with
  | .ireturn => o_1 st (fun x r => match r with
    | [] => some (Nat.beq a 0 || b_01 x, some (.inl x), M)
    | _ => none)
  | .areturn => o_R st (fun q r => match r with
    | [] => some (true, some (.inr (.inl q)), M)
    | _ => none)
  | .lreturn => (match st with
    | [.inr (.inr x)] => some (true, some (.inr (.inr x)), M)
    | _ => none)
  | .return_ => (match st with
    | [] => some (true, none, M)
    | _ => none)
  | _ => none
def r_F (cd : Nat → Option aI) (S : aS) : Option (Bool × Option aV × aM) := match cd S.1 with
  | none => none
  | some e => r_I e.1 e.2.1 S.2.2.1 S.2.2.2
section PT
variable (cs : Bool) (n L : Nat) (xs : Nat → Int32) (C : Nat → List aV → aM → Option aV → aM → Prop) (cd : Nat → Option aI)
/-- a road of k steps within one method -/
def P_t : Nat → aS → aS → Prop
  | 0, S, S1 => S = S1
  | k + 1, S, S1 => (∃ S2, st_F cs n L xs cd S = some (true, S2) ∧ P_t k S2 S1) ∨ (∃ mj av rest y M1, c_F cd S = some (true, mj, av, rest) ∧ C mj av S.2.2.2 y M1 ∧ P_t k (S.1 + 3, S.2.1, y.toList ++ rest, M1) S1)
/-- from S the method comes to a state of Z -/
def G_o (Z : aS → Prop) (S : aS) : Prop := ∃ k S1, P_t cs n L xs C cd k S S1 ∧ Z S1
end PT
def i_L (mi : Nat) (av : List aV) : List (Option aV) := av.map some ++ List.replicate (m_L mi - av.length) none
/-- the call of method mj, at most d deep, answers y and leaves M1 -/
def E_v (cs : Bool) (n L : Nat) (xs : Nat → Int32) : Nat → Nat → List aV → aM → Option aV → aM → Prop
  | 0, _, _, _, _, _ => False
  | d + 1, mj, av, M, y, M1 => mj < m_N ∧ G_o cs n L xs (E_v cs n L xs d) (m_C mj) (fun S1 => r_F (m_C mj) S1 = some (true, y, M1)) (0, i_L mj av, [], M)
section GO
variable {cs : Bool} {n L : Nat} {xs : Nat → Int32} {C : Nat → List aV → aM → Option aV → aM → Prop} {cd : Nat → Option aI} {Z : aS → Prop}
theorem G_step {S S1 : aS} {bl : Bool} (h : st_F cs n L xs cd S = some (bl, S1)) (hb : bl = true) (k : G_o cs n L xs C cd Z S1) : G_o cs n L xs C cd Z S := by
  subst hb
  obtain ⟨j, S2, h1, h2⟩ := k
  exact ⟨j + 1, S2, Or.inl ⟨S1, h, h1⟩, h2⟩
theorem G_call {S : aS} {bl : Bool} {mj : Nat} {av rest : List aV} {y : Option aV} {M1 : aM} (h : c_F cd S = some (bl, mj, av, rest)) (hb : bl = true) (hc : C mj av S.2.2.2 y M1) (k : G_o cs n L xs C cd Z (S.1 + 3, S.2.1, y.toList ++ rest, M1)) : G_o cs n L xs C cd Z S := by
  subst hb
  obtain ⟨j, S2, h1, h2⟩ := k
  exact ⟨j + 1, S2, Or.inr ⟨mj, av, rest, y, M1, h, hc, h1⟩, h2⟩
theorem G_end {S : aS} (h : Z S) : G_o cs n L xs C cd Z S := ⟨0, S, rfl, h⟩
theorem G_seq {Z' : aS → Prop} {S : aS} (h : G_o cs n L xs C cd Z S) (k : ∀ S1, Z S1 → G_o cs n L xs C cd Z' S1) : G_o cs n L xs C cd Z' S := by
  obtain ⟨j, S1, h1, h2⟩ := h
  induction j generalizing S with
  | zero =>
    obtain rfl : S = S1 := h1
    exact k S h2
  | succ j ih =>
    rcases h1 with ⟨S2, g1, g2⟩ | ⟨mj, av, rest, y, M1, g1, g2, g3⟩
    · exact G_step g1 rfl (ih g2)
    · exact G_call g1 rfl g2 (ih g3)
/-- several steps at once, with what they ask -/
def st_N (cs : Bool) (n L : Nat) (xs : Nat → Int32) (cd : Nat → Option aI) : Nat → aS → Option (Bool × aS)
  | 0, S => some (true, S)
  | k + 1, S => match st_F cs n L xs cd S with
    | none => none
    | some (b, S1) => match st_N cs n L xs cd k S1 with
      | none => none
      | some (b2, S2) => some (b && b2, S2)
theorem G_steps (j : Nat) {S S1 : aS} {bl : Bool} (h : st_N cs n L xs cd j S = some (bl, S1)) (hb : bl = true) (k : G_o cs n L xs C cd Z S1) : G_o cs n L xs C cd Z S := by
  subst hb
  induction j generalizing S with
  | zero =>
    cases h
    exact k
  | succ j ih =>
    unfold st_N at h
    cases h1 : st_F cs n L xs cd S with
    | none =>
      rw [h1] at h
      cases h
    | some z =>
      obtain ⟨b1, S2⟩ := z
      rw [h1] at h
      dsimp only at h
      cases h2 : st_N cs n L xs cd j S2 with
      | none =>
        rw [h2] at h
        cases h
      | some w =>
        obtain ⟨b2, S3⟩ := w
        rw [h2] at h
        dsimp only at h
        obtain ⟨e1, e2⟩ := Prod.mk.inj (Option.some.inj h)
        rw [Bool.and_eq_true] at e1
        subst e2
        exact G_step h1 e1.1 (ih (by rw [h2, e1.2]))
theorem G_if {c : Prop} {a b : Nat} {l : List (Option aV)} {st : List aV} {M : aM} {i : Decidable c} (h1 : c → G_o cs n L xs C cd Z (a, l, st, M)) (h2 : ¬ c → G_o cs n L xs C cd Z (b, l, st, M)) : G_o cs n L xs C cd Z (@ite Nat c i a b, l, st, M) := by
  by_cases h : c
  · rw [if_pos h]
    exact h1 h
  · rw [if_neg h]
    exact h2 h
end GO
theorem P_c {cs : Bool} {n L : Nat} {xs : Nat → Int32} {C : Nat → List aV → aM → Option aV → aM → Prop} {cd : Nat → Option aI} (hC : ∀ mj av M y M1, C mj av M y M1 → M.2.2 ≤ M1.2.2) : ∀ (k : Nat) (S S1 : aS), P_t cs n L xs C cd k S S1 → S.2.2.2.2.2 ≤ S1.2.2.2.2.2 := by
  intro k
  induction k with
  | zero =>
    intro S S1 h
    obtain rfl : S = S1 := h
    exact Nat.le_refl _
  | succ k ih =>
    intro S S1 h
    rcases h with ⟨S2, g1, g2⟩ | ⟨mj, av, rest, y, M1, g1, g2, g3⟩
    · exact Nat.le_trans (stF_c g1) (ih _ _ g2)
    · exact Nat.le_trans (hC _ _ _ _ _ g2) (ih _ _ g3)
theorem r_F_M {cd : Nat → Option aI} {S : aS} {bl : Bool} {y : Option aV} {M1 : aM} (h : r_F cd S = some (bl, y, M1)) : S.2.2.2 = M1 := by
  unfold r_F at h
  split at h
  · cases h
  · unfold r_I at h
    split at h
    · obtain ⟨x, r, -, h⟩ := o_1_inv h
      split at h <;> cases h
      rfl
    · obtain ⟨x, r, -, h⟩ := o_R_inv h
      split at h <;> cases h
      rfl
    · split at h <;> cases h
      rfl
    · split at h <;> cases h
      rfl
    · cases h
theorem E_c {cs : Bool} {n L : Nat} {xs : Nat → Int32} : ∀ (d mj : Nat) (av : List aV) (M : aM) (y : Option aV) (M1 : aM), E_v cs n L xs d mj av M y M1 → M.2.2 ≤ M1.2.2 := by
  intro d
  induction d with
  | zero => exact fun _ _ _ _ _ h => h.elim
  | succ d ih =>
    intro mj av M y M1 h
    obtain ⟨-, k, S1, h1, h2⟩ := h
    have := P_c (fun mj av M y M1 h => ih mj av M y M1 h) k _ _ h1
    rw [r_F_M h2] at this
    exact this
-- contracts
def m_W (mj : Nat) : List Cond := Cond.code (m_Y mj) (m_B mj) (m_L mj) (m_R mj) :: am_tb
def r_m (n d c c1 : Nat) : Room := { frames := d, cells := c1 - c, slots := s_l n c1 - s_l n c, locals := 40 * d }
def p_C (D : va_G) (ty : Nat → ClassId) (G : Nat → Nat → Nat) (b z0 : Nat) (cs : Bool) (n L : Nat) (xs : Nat → Int32) (av : List aV) (M : aM) : Array Value → State → Prop :=
  va_Pc (av.map (t_v G)) (fun U => U.heap.size = z0 + M.2.2 ∧ va_P D am_cl (w_l cs n ty G M) U.heap ∧ va_K D am_cl (am_ty ty) U ∧ va_D (fun q => z0 ≤ q) (w_l cs n ty G M) ∧ va_X b L xs U U.heap ∧ va_AO (R_o 3) U ∧ va_AO (R_o 2) U)
def q_C (D : va_G) (ty : Nat → ClassId) (G : Nat → Nat → Nat) (z0 : Nat) (cs : Bool) (n : Nat) (y : Option aV) (M1 : aM) : Array Value → State → Outcome → State → Prop := fun _ st oc t =>
  (oc = .returned (y.map (t_v G)) ∧ t.heap.size = z0 + M1.2.2 ∧ va_P D am_cl (w_l cs n ty G M1) t.heap ∧ va_D (fun q => z0 ≤ q) (w_l cs n ty G M1) ∧ (M1.2.2 ≤ (K_T n).length ∧ (cs = false → M1.2.2 = (K_T n).length)) ∧ ∀ x, y = some x → o_v n M1.2.2 x) ∧ va_F (fun q => z0 ≤ q) st t
/-- the contracts of all methods, at most d deep -/
def S_D (l : Launch) (D : va_G) (ty : Nat → ClassId) (G : Nat → Nat → Nat) (b z0 : Nat) (cs : Bool) (n L : Nat) (xs : Nat → Int32) (d : Nat) : Prop := ∀ (mj : Nat) (av : List aV) (M : aM) (y : Option aV) (M1 : aM), mj < m_N → E_v cs n L xs d mj av M y M1 → (∀ x ∈ av, o_v n M.2.2 x) → (∀ x ∈ av, n_L x = true) → av.length = m_na mj → (M.2.2 ≤ (K_T n).length ∧ (cs = false → M.2.2 = (K_T n).length)) →
  Met l (m_Y mj) (m_W mj) (r_m n d M.2.2 M1.2.2) (p_C D ty G b z0 cs n L xs av M) (q_C D ty G z0 cs n y M1) (M1.2.2 - M.2.2) (s_l n M1.2.2 - s_l n M.2.2) (fun q => z0 ≤ q)
theorem gd_in {ws : List Cond} (h : ∀ w ∈ ws, w ∈ am_tb) : GoodIn am_tb ws := fun w hw => ⟨h w hw, good_of_word (List.mem_filter.mp (h w hw)).2⟩
section AF
variable {p : Program} {l : Launch} {e : Env} {R : Room} {s : State} {m : MethodId} {args : Array Value} {below : List Frame} {meth : Method} {c : Code} {Q : State → Prop} {D : va_G} {ty : Nat → ClassId} {G : Nat → Nat → Nat} {b z0 : Nat} {cs : Bool} {n L : Nat} {xs : Nat → Int32} {mi c0 pc : Nat}
theorem am_aft {H : Heap} {locs : List Loc} {cells slots mc ms : Nat} {ls : Array Slot} {st0 rest : List Value} {y : Option aV} {M1 : aM} {aa : Array Value} (hr : va_Run p l e R s m args below meth c H locs cells slots mc ms (F0 m pc ls st0) rest (q_C D ty G z0 cs n y M1 aa) (fun q => z0 ≤ q)) (hS : va_S (fun q => z0 ≤ q) s.heap H locs)
    (kk : ∀ (H1 : Heap) (locs1 : List Loc), H1.size = z0 + M1.2.2 → va_P D am_cl (w_l cs n ty G M1) H1 → va_D (fun q => z0 ≤ q) (w_l cs n ty G M1) → (M1.2.2 ≤ (K_T n).length ∧ (cs = false → M1.2.2 = (K_T n).length)) → (∀ x, y = some x → o_v n M1.2.2 x) → va_S (fun q => z0 ≤ q) s.heap H1 locs1 → W p l e R s m args below meth c H1 locs1 (cells + mc) (slots + ms) Q (F0 m (pc + 3) ls (y.toList.map (t_v G) ++ rest))) : W p l e R s m args below meth c H locs cells slots Q (F0 m pc ls st0) := by
  intro T hT X
  obtain ⟨v, st₀, t, T', L', h0, X', hL, e1, e2, ⟨⟨hv, g1, g2, g3, g4, g5⟩, hz, hk⟩, st⟩ := hr T hT X
  have hv : v = y.map (t_v G) := by cases hv; rfl
  rw [h0] at hz hk
  obtain ⟨t2, a1, b1⟩ := kk T'.heap (locs ++ L') (by rw [e1]; exact g1) (by rw [e1]; exact g2) g3 g4 g5
    ⟨Nat.le_trans hS.1 (by rw [e1]; exact hz), fun q h1 h2 => by rw [e1, hk q (Nat.lt_of_lt_of_le h1 hS.1) h2]; exact hS.2.1 q h1 h2, fun q hq => by
      rcases List.mem_append.mp hq with h | h
      · exact hS.2.2 q h
      · exact hL q h⟩ T' rfl X'
  have ev : v.toList = y.toList.map (t_v G) := by
    rw [hv]
    cases y <;> rfl
  have st2 := st t2
  dsimp only at st2
  rw [ev] at st2
  exact ⟨t2, st2 a1, b1⟩
theorem p_blind {av : List aV} {M : aM} : FrameBlind (p_C D ty G b z0 cs n L xs av M) := by
  intro a U g mk q
  obtain ⟨q0, q1, qP, qK, qD, qX, qA, qB⟩ := q
  exact ⟨q0, q1, qP, va_K.moved (u := U) (U := U.calling g mk a) (Vm.Alike.refl U.vm) qK, qD, va_X.moved (u := U) (U := U.calling g mk a) (Vm.Alike.refl U.vm) qX, va_AO.moved (u := U) (U := U.calling g mk a) (Vm.Alike.refl U.vm) qA, va_AO.moved (u := U) (U := U.calling g mk a) (Vm.Alike.refl U.vm) qB⟩
theorem si_call {d mj : Nat} {i : Instr} {ll : List (Option aV)} {st av rest : List aV} {M M1 : aM} {y : Option aV} {bb : Nat} {x : Int32} (hC : C_X p R s m args meth c D ty G b z0 n L xs mi) (hs0 : s.heap.size = z0 + c0) (hc0 : c0 ≤ M.2.2) (hR : d + 1 ≤ R.frames ∧ 40 * (d + 1) ≤ R.locals) (hr : M1.2.2 - c0 ≤ R.cells ∧ s_l n M1.2.2 - s_l n c0 ≤ R.slots) (hmc : M.2.2 ≤ M1.2.2)
    {a : Nat} (he : e_k mi pc i a bb x) (hcF : c_I i a st = some (true, mj, av, rest)) (hmj : mj < m_N) (hE : E_v cs n L xs d mj av M y M1) (hD : S_D l D ty G b z0 cs n L xs d) (k : A_W p l e R s m args below meth c Q D ty G z0 cs n (m_L mi) c0 (pc + 3, ll, y.toList ++ rest, M1)) : A_W p l e R s m args below meth c Q D ty G z0 cs n (m_L mi) c0 (pc, ll, st, M) := by
  obtain ⟨hd, hk⟩ := he
  have key : c_A a st = some (true, mj, av, rest) ∧ ((∃ t, i = .invokevirtual t ∧ (m_o mi, t, a) ∈ M_T ∧ m_k a = 0) ∨ (∃ t, i = .invokestatic t ∧ (m_o mi, t, a) ∈ M_T ∧ m_k a = 1 ∧ m_o a = m_o mi) ∨ (∃ t, i = .invokespecial t ∧ (m_o mi, t, a) ∈ M_T ∧ m_k a = 2)) := by
    unfold c_I at hcF
    split at hcF
    · exact ⟨hcF, Or.inl ⟨_, rfl, hk⟩⟩
    · exact ⟨hcF, Or.inr (Or.inl ⟨_, rfl, hk⟩)⟩
    · split at hcF
      · cases hcF
      · rename_i ha
        rcases hk with ⟨hk, -⟩ | ⟨-, hk⟩
        · rw [hk] at ha
          cases ha
        · exact ⟨hcF, Or.inr (Or.inr ⟨_, rfl, hk⟩)⟩
    · cases hcF
  clear hcF hk
  obtain ⟨hcA, hk⟩ := key
  unfold c_A at hcA
  obtain ⟨h1, hx2⟩ := Prod.mk.inj (Option.some.inj hcA)
  clear hcA
  obtain ⟨hx3, hx4⟩ := Prod.mk.inj hx2
  clear hx2
  subst hx3
  obtain ⟨hav, hre⟩ := Prod.mk.inj hx4
  clear hx4
  unfold c_b at h1
  simp only [Bool.and_eq_true] at h1
  obtain ⟨h1, h2, h3, h4⟩ := h1
  have h1 : m_na a ≤ st.length := Nat.le_of_ble_eq_true h1
  have h2 : st.length - m_na a ≤ 4 := Nat.le_of_ble_eq_true h2
  have hst : st = (st.take (m_na a)).reverse.reverse ++ st.drop (m_na a) := by rw [List.reverse_reverse, List.take_append_drop]
  have hlen : ((st.take (m_na a)).reverse).length = m_na a := by rw [List.length_reverse, List.length_take]; omega
  have hlr : (st.drop (m_na a)).length ≤ 4 := by rw [List.length_drop]; omega
  intro H locs ls hRr
  obtain ⟨hP, hD', hS, hz, hle, hl, hv, hw⟩ := hRr
  dsimp only at hP hD' hS hz hle hl hv hw
  rw [hav] at hst hlen
  rw [hre] at hst hlr
  rw [hav] at h4
  have hvs : ∀ z ∈ av, o_v n M.2.2 z := fun z hz => hv z (by rw [hst]; exact List.mem_append_left _ (List.mem_reverse.mpr hz))
  have hvr : ∀ z ∈ rest, o_v n M.2.2 z := fun z hz => hv z (by rw [hst]; exact List.mem_append_right _ hz)
  have hnl : ∀ z ∈ av, n_L z = true := by
    intro z hz
    rw [← hav] at hz
    exact List.all_eq_true.mp h3 z (List.mem_reverse.mp hz)
  have hM := hD a av M y M1 hmj hE hvs hnl hlen hle
  obtain ⟨w1, w2, w3, w4, w5, w6, w7⟩ := m_ok a hmj
  have hts := hC.2.2.2.2.1
  have hsl := s_l_le (n := n) hc0
  have hsl2 := s_l_le (n := n) hmc
  have hW : ((rest.map (t_v G)).map fun v => v.category).sum ≤ 8 := by
    have := r_cat (G := G) rest
    omega
  have hf : M.2.2 - c0 + (M1.2.2 - M.2.2) ≤ R.cells ∧ s_l n M.2.2 - s_l n c0 + (s_l n M1.2.2 - s_l n M.2.2) ≤ R.slots := by
    constructor <;> omega
  have hrm : (r_m n d M.2.2 M1.2.2).frames + 1 ≤ R.frames ∧ 8 + (m_L a + 11) + (r_m n d M.2.2 M1.2.2).locals ≤ R.locals := by
    have hml := w4.2.2.1
    unfold r_m
    dsimp only
    omega
  have hpre : ∀ U : State, U.heap = H → s.WarmedH U.vm → p_C D ty G b z0 cs n L xs av M (av.map (t_v G)).toArray U := by
    intro U hU hWm
    refine ⟨rfl, by rw [hU]; exact hz, by rw [hU]; exact hP, va_K.moved hWm.alike hC.2.2.2.2.2.1, hD', ?_, va_AO.moved hWm.alike hC.2.2.2.2.2.2.2.2.1.1, va_AO.moved hWm.alike hC.2.2.2.2.2.2.2.2.1.2⟩
    rw [hU]
    refine va_X.moved hWm.alike (va_X.kept hC.2.2.2.2.2.2.1 ?_)
    have hb2 := hC.2.2.2.2.2.2.2.1
    exact hS.2.1 b (by omega) (by omega)
  have kk : ∀ (H1 : Heap) (locs1 : List Loc), H1.size = z0 + M1.2.2 → va_P D am_cl (w_l cs n ty G M1) H1 → va_D (fun q => z0 ≤ q) (w_l cs n ty G M1) → (M1.2.2 ≤ (K_T n).length ∧ (cs = false → M1.2.2 = (K_T n).length)) → (∀ x, y = some x → o_v n M1.2.2 x) → va_S (fun q => z0 ≤ q) s.heap H1 locs1 → W p l e R s m args below meth c H1 locs1 (M.2.2 - c0 + (M1.2.2 - M.2.2)) (s_l n M.2.2 - s_l n c0 + (s_l n M1.2.2 - s_l n M.2.2)) Q (F0 m (pc + 3) ls (y.toList.map (t_v G) ++ rest.map (t_v G))) := by
    intro H1 locs1 k1 k2 k3 k4 k5 k6
    have kx := k H1 locs1 ls ⟨k2, k3, k6, k1, k4, hl, fun z hz => ?_, fun z hz => o_up hmc (hw z hz)⟩
    · dsimp only at kx
      rw [List.map_append] at kx
      exact W.cs (by omega) (by omega) kx
    · rcases List.mem_append.mp hz with hz | hz
      · cases y with
        | none => cases hz
        | some y0 =>
          rw [List.mem_singleton.mp hz]
          exact k5 y0 rfl
      · exact o_up hmc (hvr z hz)
  have fixd : CallFix p m c (m_B mi) (m_L mi) s args am_tb (R_o (m_o mi)) := ⟨hC.1, hC.2.1, hC.2.2.1, hC.2.2.2.1, hts⟩
  have hcode : Cond.code (m_Y a) (m_B a) (m_L a) (m_R a) ∈ am_tb := w1
  have hWs : ∀ w ∈ m_W a, w ∈ am_tb := by
    intro w hw2
    rcases List.mem_cons.mp hw2 with z | z
    · rw [z]
      exact hcode
    · exact z
  have hroom : 2 * (F0 m pc ls (st.map (t_v G))).monitorRoom + ((rest.map (t_v G)).map fun v => v.category).sum ≤ 8 := lv_room hW
  show W p l e R s m args below meth c H locs (M.2.2 - c0) (s_l n M.2.2 - s_l n c0) Q (F0 m pc ls (st.map (t_v G)))
  rcases hk with ⟨t, rfl, hmt, hkk⟩ | ⟨t, rfl, hmt, hkk, hoo⟩ | ⟨t, rfl, hmt, hkk⟩
  · obtain ⟨q1, q2⟩ := w5 hkk
    have h4' : r_c a av = true := by
      rcases Bool.or_eq_true _ _ ▸ h4 with z | z
      · exact absurd (Nat.eq_of_beq_eq_true z) (by omega)
      · exact z
    unfold r_c at h4'
    split at h4'
    · rename_i q av'
      have hkq : k_c q.1 = m_o a := Nat.eq_of_beq_eq_true h4'
      have hlt : k_c q.1 < 6 := by rw [hkq]; exact w4.1 hkk
      obtain ⟨pp, hpp⟩ := List.getElem?_of_mem (key_o (v_h hvs) hlt)
      have hrec := va_recv (q0 := pp) hC.2.2.2.2.2.1 hP (cl_at _ hlt) (by rw [w_get hpp, c_e_o hlt])
      dsimp only at hrec
      rw [hkq, ← w3] at hrec
      refine am_aft (va_runV (As := av'.map (t_v G)) (rest := rest.map (t_v G)) (b := G q.1 q.2) fixd hM (cwV (m_na a - 1) hts (gd_in ?_) rfl rfl rfl ⟨rfl, w7.1, w7.2.1, ?_⟩ hrm) ⟨p_blind, hrec, hpre⟩ rfl ?_ hl.1 ?_ hroom hd hf) hS kk
      · intro w hw2
        rcases List.mem_append.mp hw2 with z | z
        · simp only [List.mem_cons, List.not_mem_nil, or_false] at z
          rcases z with rfl | rfl | rfl | rfl
          · exact (M_ok _ hmt).1
          · exact q1
          · exact q2
          · exact w2
        · exact hWs w z
      · have := w7.2.2
        rw [hkk] at this
        exact this
      · rw [List.length_map]
        rw [List.length_cons] at hlen
        omega
      · show st.map (t_v G) = _
        rw [hst, List.map_append, List.map_reverse, List.map_cons, List.reverse_cons, List.append_assoc]
        rfl
    · cases h4'
  · have q1 := w6.1 hkk
    refine am_aft (va_runS (As := av.map (t_v G)) (rest := rest.map (t_v G)) fixd hM (cwS (m_na a) hts (gd_in ?_) rfl rfl rfl ⟨by rw [w3, hoo], w7.1, w7.2.1, ?_⟩ hrm) ⟨p_blind, hpre⟩ rfl ?_ hl.1 ?_ hroom hd hf) hS kk
    · intro w hw2
      rcases List.mem_append.mp hw2 with z | z
      · simp only [List.mem_cons, List.not_mem_nil, or_false] at z
        rcases z with rfl | rfl | rfl
        · exact (M_ok _ hmt).1
        · exact q1
        · rw [← hoo, ← w3]
          exact w2
      · exact hWs w z
    · have := w7.2.2
      rw [hkk] at this
      exact this
    · rw [List.length_map]
      exact hlen
    · show st.map (t_v G) = _
      rw [hst, List.map_append, List.map_reverse]
  · obtain ⟨q1, q2⟩ := w6.2 hkk
    have h4' : r_c a av = true := by
      rcases Bool.or_eq_true _ _ ▸ h4 with z | z
      · exact absurd (Nat.eq_of_beq_eq_true z) (by omega)
      · exact z
    unfold r_c at h4'
    split at h4'
    · rename_i q av'
      have hret : m_R a = none := q2.2
      have hM2 := hM
      refine am_aft (va_runI (As := av'.map (t_v G)) (rest := rest.map (t_v G)) (b := G q.1 q.2) (bytes := m_B a) (maxL := m_L a) fixd hM2 (cwI (m_na a - 1) hts (gd_in hWs) (by unfold m_W; rw [hret]) rfl rfl (hts _ w2) (hts _ (M_ok _ hmt).1) (hts _ q1) q2.1 ⟨w7.1, w7.2.1, ?_⟩ hrm) ⟨p_blind, hpre⟩ rfl ?_ hl.1 ?_ hroom hd hf) hS kk
      · have := w7.2.2
        rw [hkk] at this
        exact this
      · rw [List.length_map]
        rw [List.length_cons] at hlen
        omega
      · show st.map (t_v G) = _
        rw [hst, List.map_append, List.map_reverse, List.map_cons, List.reverse_cons, List.append_assoc]
        rfl
    · cases h4'
theorem am_path {d : Nat} (hC : C_X p R s m args meth c D ty G b z0 n L xs mi) (hs0 : s.heap.size = z0 + c0) (hR : d + 1 ≤ R.frames ∧ 40 * (d + 1) ≤ R.locals) (hcd : ∀ pc i a b x, m_C mi pc = some (i, a, b, x) → e_k mi pc i a b x) (hD : S_D l D ty G b z0 cs n L xs d) (hN : ∀ mj av M y M1, E_v cs n L xs d mj av M y M1 → mj < m_N) :
    ∀ (k : Nat) (S S1 : aS), P_t cs n L xs (E_v cs n L xs d) (m_C mi) k S S1 → c0 ≤ S.2.2.2.2.2 → (S1.2.2.2.2.2 - c0 ≤ R.cells ∧ s_l n S1.2.2.2.2.2 - s_l n c0 ≤ R.slots) → A_W p l e R s m args below meth c Q D ty G z0 cs n (m_L mi) c0 S1 → A_W p l e R s m args below meth c Q D ty G z0 cs n (m_L mi) c0 S := by
  intro k
  induction k with
  | zero =>
    intro S S1 h _ _ hk
    obtain rfl : S = S1 := h
    exact hk
  | succ k ih =>
    intro S S1 h hc0 hr hk
    rcases h with ⟨S2, g1, g2⟩ | ⟨mj, av, rest, y, M1, g1, g2, g3⟩
    · have h1 := stF_c g1
      have h2 := P_c (fun mj av M y M1 h => E_c d mj av M y M1 h) k _ _ g2
      dsimp only at h1
      have h3 := s_l_le (n := n) h2
      exact am_step hC hs0 hc0 ⟨by omega, by omega⟩ hcd g1 (ih S2 S1 g2 (by omega) hr hk)
    · obtain ⟨pc, ll, st, M⟩ := S
      have h1 := E_c d mj av _ y M1 g2
      have h2 := P_c (fun mj av M y M1 h => E_c d mj av M y M1 h) k _ _ g3
      dsimp only at h1 h2 hc0 g2
      have h3 := s_l_le (n := n) h2
      unfold c_F at g1
      dsimp only at g1
      split at g1
      · cases g1
      · rename_i en hen
        obtain ⟨i, a, bb, x⟩ := en
        exact si_call hC hs0 hc0 hR ⟨by omega, by omega⟩ h1 (hcd pc i a bb x hen) g1 (hN _ _ _ _ _ g2) g2 hD (ih _ S1 g3 (by dsimp only; omega) hr hk)
end AF
theorem E_lt {cs : Bool} {n L : Nat} {xs : Nat → Int32} (d mj : Nat) (av : List aV) (M : aM) (y : Option aV) (M1 : aM) (h : E_v cs n L xs d mj av M y M1) : mj < m_N := by
  cases d with
  | zero => exact h.elim
  | succ d => exact h.1
theorem lg_sl_1 {vs : List Value} (h : ∀ v ∈ vs, v.category = 1) : lg_sl vs = vs.map Slot.val := by
  induction vs with
  | nil => rfl
  | cons v vs ih =>
    have h1 := v_h h
    have h2 := ih (v_t h)
    unfold lg_sl at h2 ⊢
    rw [List.flatMap_cons, h2, if_neg (by omega)]
    rfl
theorem lv_args_1 {vs : List Value} (h : ∀ v ∈ vs, v.category = 1) : ∀ (k i : Nat) (v : Value), vs[i]? = some v → (k + i, v) ∈ lv_args k vs := by
  induction vs with
  | nil => intro k i v hv; cases hv
  | cons w vs ih =>
    intro k i v hv
    have h1 := v_h h
    unfold lv_args
    rw [if_neg (by omega)]
    cases i with
    | zero =>
      cases hv
      exact List.mem_cons_self
    | succ i =>
      have := ih (v_t h) (k + 1) i v hv
      rw [show k + (i + 1) = k + 1 + i by omega]
      exact List.mem_cons_of_mem _ this
theorem n_L_ne {v : aV} (h : n_L v = true) : ∀ x, v ≠ .inr (.inr x) := by
  intro x q
  subst q
  cases h
theorem l_in {G : Nat → Nat → Nat} {mi : Nat} {av : List aV} (hl : av.length ≤ m_L mi) (h : ∀ x ∈ av, n_L x = true) : l_r G ((lg_sl (av.map (t_v G)) ++ List.replicate (m_L mi - (lg_sl (av.map (t_v G))).length) Slot.unset).toArray) (m_L mi) (i_L mi av) := by
  have hc : ∀ v ∈ av.map (t_v G), v.category = 1 := by
    intro v hv
    obtain ⟨x, hx, rfl⟩ := List.mem_map.mp hv
    exact cat_1 (n_L_ne (h x hx))
  have hlen : (lg_sl (av.map (t_v G))).length = av.length := by rw [lg_sl_1 hc]; simp
  obtain ⟨g1, g2, g3⟩ := lv_entry (av.map (t_v G)) (n := m_L mi) (by omega)
  refine ⟨g1, by unfold i_L; simp; omega, g2, fun i x hx => ?_⟩
  unfold i_L at hx
  by_cases hi : i < av.length
  · rw [List.getElem?_append_left (by simpa using hi), List.getElem?_map] at hx
    cases hx2 : av[i]? with
    | none => rw [hx2] at hx; cases hx
    | some z =>
      rw [hx2] at hx
      cases hx
      have h2 : (av.map (t_v G))[i]? = some (t_v G x) := by rw [List.getElem?_map, hx2]; rfl
      have h3 := g3 _ (lv_args_1 hc 0 i _ h2)
      rw [Nat.zero_add] at h3
      exact ⟨h3, n_L_ne (h x (List.mem_of_getElem? hx2))⟩
  · rw [List.getElem?_append_right (by simp; omega)] at hx
    have := List.eq_of_mem_replicate (List.mem_of_getElem? hx)
    cases this
/-- a method's end -/
theorem am_ret {p : Program} {l : Launch} {e : Env} {R : Room} {s : State} {m : MethodId} {args : Array Value} {below : List Frame} {meth : Method} {c : Code} {D : va_G} {ty : Nat → ClassId} {G : Nat → Nat → Nat} {b z0 : Nat} {cs : Bool} {n L : Nat} {xs : Nat → Int32} {mi c0 : Nat} {S1 : aS} {y : Option aV} {M1 : aM} (hC : C_X p R s m args meth c D ty G b z0 n L xs mi) (hr : meth.sig.returnType = m_R mi) (hlocks : meth.locks = false)
    (hcd : ∀ pc i a b x, m_C mi pc = some (i, a, b, x) → e_k mi pc i a b x) (h : r_F (m_C mi) S1 = some (true, y, M1)) : A_W p l e R s m args below meth c (MQ below (q_C D ty G z0 cs n y M1) args s (M1.2.2 - c0) (s_l n M1.2.2 - s_l n c0) (fun q => z0 ≤ q)) D ty G z0 cs n (m_L mi) c0 S1 := by
  have hM := r_F_M h
  obtain ⟨pc, ll, st, M⟩ := S1
  dsimp only at hM
  subst hM
  unfold r_F at h
  dsimp only at h
  intro H locs ls hR
  obtain ⟨hP, hD, hS, hz, hle, hl, hv, hw⟩ := hR
  dsimp only at hP hD hS hz hle hl hv hw
  have fin : ∀ t : State, t.heap = H → (∀ x, y = some x → o_v n M.2.2 x) → q_C D ty G z0 cs n y M args s (.returned (y.map (t_v G))) t := fun t ht h5 => ⟨⟨rfl, by rw [ht]; exact hz, by rw [ht]; exact hP, hD, hle, h5⟩, hS.F ht⟩
  split at h
  · cases h
  · rename_i en hen
    obtain ⟨i, a, bb, x⟩ := en
    obtain ⟨hd, hk⟩ := hcd pc i a bb x hen
    dsimp only at h
    unfold r_I at h
    split at h
    · obtain ⟨v, r, rfl, hh⟩ := o_1_inv h
      clear h
      have h := hh
      clear hh
      split at h
      · obtain ⟨h1, h2⟩ := Prod.mk.inj (Option.some.inj h)
        cases h2
        rcases hk with ⟨ha, hk⟩ | ⟨ha, hk⟩
        · exact W.iret (v := v) hC.1 hC.2.1 (hr.trans hk) (fun t ht _ => fin t ht (fun _ q => by cases q; trivial)) hS.2.2 hd hlocks
        · rw [ha] at h1
          have hb : narrow .boolean (.int v) = .int v := by
            rcases b_01_or (by simpa using h1) with rfl | rfl <;> rfl
          exact W.zret (v := v) hC.1 hC.2.1 (hr.trans hk) hb (fun t ht _ => fin t ht (fun _ q => by cases q; trivial)) hS.2.2 hd hlocks
      · cases h
    · obtain ⟨q, r, rfl, hh⟩ := o_R_inv h
      clear h
      have h := hh
      clear hh
      split at h
      · cases h
        exact W.aret (v := .ref (G q.1 q.2)) hC.1 hC.2.1 (hr.trans hk) (Or.inl ⟨_, rfl⟩) (Or.inr ⟨_, rfl⟩) (fun t ht _ => fin t ht (fun _ q => by cases q; exact v_h hv)) hS.2.2 hd hlocks
      · cases h
    · split at h
      · cases h
        exact W.lret hC.1 hC.2.1 (hr.trans hk) (fun t ht _ => fin t ht (fun _ q => by cases q; trivial)) hS.2.2 hd hlocks
      · cases h
    · split at h
      · cases h
        exact W.vret hC.1 hC.2.1 (hr.trans hk) (fun t ht _ => fin t ht (fun _ q => by cases q)) hS.2.2 hd hlocks
      · cases h
    · cases h
/-- ALL CONTRACTS -/
theorem am_met {l : Launch} {D : va_G} {ty : Nat → ClassId} {G : Nat → Nat → Nat} {b z0 : Nat} {cs : Bool} {n L : Nat} {xs : Nat → Int32} (hb : b < z0) (hG : (∀ (i : Nat) (q : Nat × Nat), (K_T n)[i]? = some q → G q.1 q.2 = z0 + i) ∧ G 50 0 = b ∧ n ≤ 6) : ∀ d, S_D l D ty G b z0 cs n L xs d := by
  intro d
  induction d with
  | zero =>
    intro mj av M y M1 _ hE
    exact hE.elim
  | succ d ih =>
    intro mj av M y M1 hmj hE hv hl hlen hle
    obtain ⟨-, k, S1, hP, hret⟩ := hE
    obtain ⟨w1, w2, w3, w4, w5, w6, w7⟩ := m_ok mj hmj
    refine Met.ofW (cc := m_B mj) (maxL := m_L mj) (ret := m_R mj) (by rw [w3]; exact w4.2.2.2) rfl ?_
    intro p e s m args below meth c s₁ B hml hvv
    obtain ⟨rfl, hsz, hPw, hK, hD, hX, hA1, hA2⟩ := hvv
    have hts := atoms_spec (ws := m_W mj) B.pre
    have hown : s.vm.findClass (R_o (m_o mj)) = some m.cls := by
      rw [← w3]
      exact findClass_of_methodNamed B.named
    have hCX : C_X p (r_m n (d + 1) M.2.2 M1.2.2) s m (av.map (t_v G)).toArray meth c D ty G b z0 n L xs mj := by
      refine ⟨B.exec, B.bytes, hml, hown, fun w hw => hts w (List.mem_cons_of_mem _ hw), hK, hX, ⟨hb, by omega⟩, ⟨hA1, hA2⟩, hG, ⟨?_, ?_⟩, fun h2 => (name_of_methodNamed B.named B.method).1.trans (w6.2 h2).2.1⟩
      · show 1 ≤ d + 1
        omega
      · show 24 ≤ 40 * (d + 1)
        omega
    have hrM := r_F_M hret
    rw [lg_entry_eq]
    refine W.cs (Nat.sub_self M.2.2).symm (Nat.sub_self (s_l n M.2.2)).symm ?_
    refine am_path (d := d) hCX hsz ⟨Nat.le_refl _, Nat.le_refl _⟩ (cd_ok mj (by omega)) ih (E_lt d) k _ S1 hP (Nat.le_refl _) ?_ (am_ret hCX B.returns B.notSynchronized (cd_ok mj (by omega)) hret) s.heap [] _ ⟨hPw, hD, va_S.rf, hsz, hle, l_in (by have := w4.2.1; omega) hl, ?_, ?_⟩
    · rw [hrM]
      exact ⟨Nat.le_refl _, Nat.le_refl _⟩
    · intro x hx
      cases hx
    · intro x hx
      dsimp only at hx
      unfold i_L at hx
      rcases List.mem_append.mp hx with h | h
      · obtain ⟨z, hz, e2⟩ := List.mem_map.mp h
        cases e2
        exact hv _ hz
      · have := List.eq_of_mem_replicate h
        cases this
