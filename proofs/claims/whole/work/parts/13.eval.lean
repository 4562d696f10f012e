/-! A RUN THAT IS RECKONED OUT (constructors): the small machine as a function, on locals of which some are left open, and without the script -/
def l_le (l l' : List (Option aV)) : Prop := l.length = l'.length ∧ ∀ (i : Nat) (x : aV), l[i]? = some (some x) → l'[i]? = some (some x)
theorem l_le_I {l l' : List (Option aV)} {a : Nat} {y : Int32} (h : l_le l l') (hg : g_I l a = some y) : g_I l' a = some y := by
  unfold g_I
  rw [h.2 _ _ (g_I_inv hg)]
theorem l_le_R {l l' : List (Option aV)} {a : Nat} {y : Nat × Nat} (h : l_le l l') (hg : g_R l a = some y) : g_R l' a = some y := by
  unfold g_R
  rw [h.2 _ _ (g_R_inv hg)]
theorem l_le_set {l l' : List (Option aV)} (a : Nat) (v : Option aV) (h : l_le l l') : l_le (l.set a v) (l'.set a v) := by
  refine ⟨by rw [List.length_set, List.length_set]; exact h.1, fun i x hx => ?_⟩
  by_cases hi : i = a
  · subst hi
    have hlt : i < l.length := by
      have := (List.getElem?_eq_some_iff.mp hx).1
      rwa [List.length_set] at this
    rw [List.getElem?_set_self hlt] at hx
    rw [List.getElem?_set_self (by rw [← h.1]; exact hlt)]
    exact hx
  · rw [List.getElem?_set_ne (fun q => hi q.symm)] at hx ⊢
    exact h.2 i x hx
theorem fG_l {cs : Bool} {n a b pc : Nat} {l : List (Option aV)} {M : aM} {q : Nat × Nat} {r : List aV} {z : Bool × aS} (h : f_G cs n a b pc l M q r = some z) (l' : List (Option aV)) : z.2.2.1 = l ∧ f_G cs n a b pc l' M q r = some (z.1, z.2.1, l', z.2.2.2) := by
  unfold f_G at h ⊢
  split at h
  · split at h <;> first | (cases h; exact ⟨rfl, rfl⟩) | cases h
  · cases h
theorem fput_l {cs : Bool} {a b pc : Nat} {l : List (Option aV)} {M : aM} {st : List aV} {z : Bool × aS} (h : f_put cs a b pc l M st = some z) (l' : List (Option aV)) : z.2.2.1 = l ∧ f_put cs a b pc l' M st = some (z.1, z.2.1, l', z.2.2.2) := by
  unfold f_put at h ⊢
  split at h
  · unfold f_P at h ⊢
    split at h
    · split at h
      · cases h
        exact ⟨rfl, rfl⟩
      · cases h
    · cases h
  · unfold f_Q at h ⊢
    split at h
    · split at h
      · cases h
        exact ⟨rfl, rfl⟩
      · cases h
    · cases h
  · cases h
theorem fild_l {n L : Nat} {xs : Nat → Int32} {pc : Nat} {l : List (Option aV)} {M : aM} {x : Int32} {q : Nat × Nat} {r : List aV} {S : aS} (h : f_ild n 0 (fun _ => 0) pc l M x q r = some (true, S)) (l' : List (Option aV)) : S.2.1 = l ∧ f_ild n L xs pc l' M x q r = some (true, S.1, l', S.2.2) := by
  unfold f_ild at h ⊢
  split at h
  · obtain ⟨h1, -⟩ := Prod.mk.inj (Option.some.inj h)
    unfold i_b at h1
    simp at h1
  · split at h
    · obtain ⟨h1, rfl⟩ := Prod.mk.inj (Option.some.inj h)
      rw [h1]
      exact ⟨rfl, rfl⟩
    · cases h
theorem fzld_l {n pc : Nat} {l : List (Option aV)} {M : aM} {x : Int32} {q : Nat × Nat} {r : List aV} {z : Bool × aS} (h : f_zld n pc l M x q r = some z) (l' : List (Option aV)) : z.2.2.1 = l ∧ f_zld n pc l' M x q r = some (z.1, z.2.1, l', z.2.2.2) := by
  unfold f_zld at h ⊢
  split at h <;> first | (cases h; exact ⟨rfl, rfl⟩) | cases h
theorem fald_l {cs : Bool} {n pc : Nat} {l : List (Option aV)} {M : aM} {x : Int32} {q : Nat × Nat} {r : List aV} {z : Bool × aS} (h : f_ald cs n pc l M x q r = some z) (l' : List (Option aV)) : z.2.2.1 = l ∧ f_ald cs n pc l' M x q r = some (z.1, z.2.1, l', z.2.2.2) := by
  unfold f_ald at h ⊢
  split at h <;> first | (cases h; exact ⟨rfl, rfl⟩) | cases h
theorem fist_l {n pc : Nat} {l : List (Option aV)} {M : aM} {y x : Int32} {q : Nat × Nat} {r : List aV} {z : Bool × aS} (h : f_ist n pc l M y x q r = some z) (l' : List (Option aV)) : z.2.2.1 = l ∧ f_ist n pc l' M y x q r = some (z.1, z.2.1, l', z.2.2.2) := by
  unfold f_ist at h ⊢
  split at h <;> first | (cases h; exact ⟨rfl, rfl⟩) | cases h
theorem fzst_l {n pc : Nat} {l : List (Option aV)} {M : aM} {y x : Int32} {q : Nat × Nat} {r : List aV} {z : Bool × aS} (h : f_zst n pc l M y x q r = some z) (l' : List (Option aV)) : z.2.2.1 = l ∧ f_zst n pc l' M y x q r = some (z.1, z.2.1, l', z.2.2.2) := by
  unfold f_zst at h ⊢
  split at h <;> first | (cases h; exact ⟨rfl, rfl⟩) | cases h
theorem fast_l {cs : Bool} {n pc : Nat} {l : List (Option aV)} {M : aM} {q2 : Nat × Nat} {x : Int32} {q : Nat × Nat} {r : List aV} {z : Bool × aS} (h : f_ast cs n pc l M q2 x q r = some z) (l' : List (Option aV)) : z.2.2.1 = l ∧ f_ast cs n pc l' M q2 x q r = some (z.1, z.2.1, l', z.2.2.2) := by
  unfold f_ast at h ⊢
  split at h
  · cases h
    exact ⟨rfl, rfl⟩
  · split at h <;> first | (cases h; exact ⟨rfl, rfl⟩) | cases h
theorem fnew_l {cs : Bool} {n a pc : Nat} {l : List (Option aV)} {st : List aV} {M : aM} {z : Bool × aS} (h : f_new cs n a pc l st M = some z) (l' : List (Option aV)) : z.2.2.1 = l ∧ f_new cs n a pc l' st M = some (z.1, z.2.1, l', z.2.2.2) := by
  unfold f_new at h ⊢
  split at h
  · split at h <;> first | (cases h; exact ⟨rfl, rfl⟩) | cases h
  · cases h
theorem fnwa_l {cs : Bool} {n a pc : Nat} {l : List (Option aV)} {x : Int32} {r : List aV} {M : aM} {z : Bool × aS} (h : f_nwa cs n a pc l M x r = some z) (l' : List (Option aV)) : z.2.2.1 = l ∧ f_nwa cs n a pc l' M x r = some (z.1, z.2.1, l', z.2.2.2) := by
  unfold f_nwa at h ⊢
  split at h
  · split at h <;> first | (cases h; exact ⟨rfl, rfl⟩) | cases h
  · cases h
theorem st_l {cs : Bool} {n L : Nat} {xs : Nat → Int32} {i : Instr} {a b : Nat} {x : Int32} {pc : Nat} {l l' : List (Option aV)} {st : List aV} {M : aM} {S : aS} (hl : l_le l l') (ha : i ≠ .arraylength) (h : st_I cs n 0 (fun _ => 0) i a b x pc l st M = some (true, S)) : ∃ l1, l_le S.2.1 l1 ∧ st_I cs n L xs i a b x pc l' st M = some (true, S.1, l1, S.2.2) := by
  cases i
  case arraylength => exact absurd rfl ha
  case iconst t => cases h; exact ⟨l', hl, rfl⟩
  case bipush t => cases h; exact ⟨l', hl, rfl⟩
  case sipush t => cases h; exact ⟨l', hl, rfl⟩
  case ldc2_w t => cases h; exact ⟨l', hl, rfl⟩
  case goto t => cases h; exact ⟨l', hl, rfl⟩
  case iload_n t =>
    obtain ⟨y, hy, e⟩ := Option.map_eq_some_iff.mp h
    cases e
    exact ⟨l', hl, Option.map_eq_some_iff.mpr ⟨y, l_le_I hl hy, rfl⟩⟩
  case iload t =>
    obtain ⟨y, hy, e⟩ := Option.map_eq_some_iff.mp h
    cases e
    exact ⟨l', hl, Option.map_eq_some_iff.mpr ⟨y, l_le_I hl hy, rfl⟩⟩
  case aload_n t =>
    obtain ⟨y, hy, e⟩ := Option.map_eq_some_iff.mp h
    cases e
    exact ⟨l', hl, Option.map_eq_some_iff.mpr ⟨y, l_le_R hl hy, rfl⟩⟩
  case aload t =>
    obtain ⟨y, hy, e⟩ := Option.map_eq_some_iff.mp h
    cases e
    exact ⟨l', hl, Option.map_eq_some_iff.mpr ⟨y, l_le_R hl hy, rfl⟩⟩
  case iinc t j =>
    obtain ⟨y, hy, e⟩ := Option.map_eq_some_iff.mp h
    cases e
    exact ⟨_, l_le_set a _ hl, Option.map_eq_some_iff.mpr ⟨y, l_le_I hl hy, rfl⟩⟩
  case istore_n t =>
    obtain ⟨y, r, rfl, h2⟩ := o_1_inv h
    cases h2
    exact ⟨_, l_le_set a _ hl, rfl⟩
  case istore t =>
    obtain ⟨y, r, rfl, h2⟩ := o_1_inv h
    cases h2
    exact ⟨_, l_le_set a _ hl, rfl⟩
  case astore_n t =>
    obtain ⟨y, r, rfl, h2⟩ := o_R_inv h
    cases h2
    exact ⟨_, l_le_set a _ hl, rfl⟩
  case astore t =>
    obtain ⟨y, r, rfl, h2⟩ := o_R_inv h
    cases h2
    exact ⟨_, l_le_set a _ hl, rfl⟩
  case iadd => obtain ⟨y, w, r, rfl, h2⟩ := o_2_inv h; cases h2; exact ⟨l', hl, rfl⟩
  case isub => obtain ⟨y, w, r, rfl, h2⟩ := o_2_inv h; cases h2; exact ⟨l', hl, rfl⟩
  case imul => obtain ⟨y, w, r, rfl, h2⟩ := o_2_inv h; cases h2; exact ⟨l', hl, rfl⟩
  case iand => obtain ⟨y, w, r, rfl, h2⟩ := o_2_inv h; cases h2; exact ⟨l', hl, rfl⟩
  case irem =>
    obtain ⟨y, w, r, rfl, h2⟩ := o_2_inv h
    obtain ⟨h1, rfl⟩ := Prod.mk.inj (Option.some.inj h2)
    refine ⟨l', hl, ?_⟩
    show some (!decide (w = 0), _) = _
    rw [h1]
  case i2l => obtain ⟨y, r, rfl, h2⟩ := o_1_inv h; cases h2; exact ⟨l', hl, rfl⟩
  case ladd => obtain ⟨y, w, r, rfl, h2⟩ := o_L_inv h; cases h2; exact ⟨l', hl, rfl⟩
  case lmul => obtain ⟨y, w, r, rfl, h2⟩ := o_L_inv h; cases h2; exact ⟨l', hl, rfl⟩
  case lcmp => obtain ⟨y, w, r, rfl, h2⟩ := o_L_inv h; cases h2; exact ⟨l', hl, rfl⟩
  case ifCond c off => obtain ⟨y, r, rfl, h2⟩ := o_1_inv h; cases h2; exact ⟨l', hl, rfl⟩
  case if_icmp c off => obtain ⟨y, w, r, rfl, h2⟩ := o_2_inv h; cases h2; exact ⟨l', hl, rfl⟩
  case tableswitch d lo hi offs =>
    obtain ⟨y, r, rfl, h2⟩ := o_1_inv h
    obtain ⟨h1, rfl⟩ := Prod.mk.inj (Option.some.inj h2)
    refine ⟨l', hl, ?_⟩
    show some (s_b pc d lo hi offs y, _) = _
    rw [h1]
  case dup =>
    rcases st with _ | ⟨y | q | z, r⟩ <;> first | (cases h; done) | (cases h; exact ⟨l', hl, rfl⟩)
  case pop =>
    rcases st with _ | ⟨y | q | z, r⟩ <;> first | (cases h; done) | (cases h; exact ⟨l', hl, rfl⟩)
  case dup_x1 =>
    rcases st with _ | ⟨y | q | z, _ | ⟨y2 | q2 | z2, r⟩⟩ <;> first | (cases h; done) | (cases h; exact ⟨l', hl, rfl⟩)
  case dup2 =>
    rcases st with _ | ⟨y | q | z, _ | ⟨y2 | q2 | z2, r⟩⟩ <;> first | (cases h; done) | (cases h; exact ⟨l', hl, rfl⟩)
  case getfield t =>
    obtain ⟨q, r, rfl, h2⟩ := o_R_inv h
    obtain ⟨e1, e2⟩ := fG_l h2 l'
    dsimp only at e1 e2
    exact ⟨l', by rw [e1]; exact hl, e2⟩
  case putfield t =>
    obtain ⟨e1, e2⟩ := fput_l h l'
    dsimp only at e1 e2
    exact ⟨l', by rw [e1]; exact hl, e2⟩
  case iaload =>
    obtain ⟨y, q, r, rfl, h2⟩ := o_IR_inv h
    obtain ⟨e1, e2⟩ := fild_l (L := L) (xs := xs) h2 l'
    exact ⟨l', by rw [e1]; exact hl, e2⟩
  case baload =>
    obtain ⟨y, q, r, rfl, h2⟩ := o_IR_inv h
    obtain ⟨e1, e2⟩ := fzld_l h2 l'
    dsimp only at e1 e2
    exact ⟨l', by rw [e1]; exact hl, e2⟩
  case aaload =>
    obtain ⟨y, q, r, rfl, h2⟩ := o_IR_inv h
    obtain ⟨e1, e2⟩ := fald_l h2 l'
    dsimp only at e1 e2
    exact ⟨l', by rw [e1]; exact hl, e2⟩
  case iastore =>
    obtain ⟨y, w, q, r, rfl, h2⟩ := o_IIR_inv h
    obtain ⟨e1, e2⟩ := fist_l h2 l'
    dsimp only at e1 e2
    exact ⟨l', by rw [e1]; exact hl, e2⟩
  case bastore =>
    obtain ⟨y, w, q, r, rfl, h2⟩ := o_IIR_inv h
    obtain ⟨e1, e2⟩ := fzst_l h2 l'
    dsimp only at e1 e2
    exact ⟨l', by rw [e1]; exact hl, e2⟩
  case aastore =>
    obtain ⟨y, w, q, r, rfl, h2⟩ := o_RIR_inv h
    obtain ⟨e1, e2⟩ := fast_l h2 l'
    dsimp only at e1 e2
    exact ⟨l', by rw [e1]; exact hl, e2⟩
  case new t =>
    obtain ⟨e1, e2⟩ := fnew_l h l'
    dsimp only at e1 e2
    exact ⟨l', by rw [e1]; exact hl, e2⟩
  case newarray t =>
    obtain ⟨y, r, rfl, h2⟩ := o_1_inv h
    obtain ⟨e1, e2⟩ := fnwa_l h2 l'
    dsimp only at e1 e2
    exact ⟨l', by rw [e1]; exact hl, e2⟩
  case anewarray t =>
    obtain ⟨y, r, rfl, h2⟩ := o_1_inv h
    obtain ⟨e1, e2⟩ := fnwa_l h2 l'
    dsimp only at e1 e2
    exact ⟨l', by rw [e1]; exact hl, e2⟩
  case invokespecial t =>
    have h' : (match Nat.beq a 999 with
      | true => o_R st (fun _ r => some (Nat.ble r.length 4, pc + 3, l, r, M))
      | false => none) = some (true, S) := h
    split at h'
    · rename_i e1
      obtain ⟨q, r, rfl, h2⟩ := o_R_inv h'
      obtain ⟨h1, rfl⟩ := Prod.mk.inj (Option.some.inj h2)
      refine ⟨l', hl, ?_⟩
      show (match Nat.beq a 999 with
        | true => o_R (Sum.inr (Sum.inl q) :: r) (fun _ r => some (Nat.ble r.length 4, pc + 3, l', r, M))
        | false => none) = _
      rw [e1]
      show some (Nat.ble r.length 4, _) = _
      rw [h1]
    · cases h'
  all_goals cases h
def n_al (cd : Nat → Option aI) (pc : Nat) : Bool := match cd pc with
  | some (.arraylength, _) => false
  | _ => true
/-- the method from S to the place 'stop' -/
def run_p (n : Nat) (call : Nat → List aV → aM → Option (Option aV × aM)) (cd : Nat → Option aI) (stop : Nat) : Nat → aS → Option aS
  | 0, _ => none
  | k + 1, S => match Nat.beq S.1 stop with
    | true => some S
    | false => (match c_F cd S with
      | some (bl, mj, av, rest) => (match bl with
        | true => (match call mj av S.2.2.2 with
          | some (y, M1) => run_p n call cd stop k (S.1 + 3, S.2.1, y.toList ++ rest, M1)
          | none => none)
        | false => none)
      | none => (match n_al cd S.1 with
        | true => (match st_F true n 0 (fun _ => 0) cd S with
          | some (bl, S1) => (match bl with
            | true => run_p n call cd stop k S1
            | false => none)
          | none => none)
        | false => none))
/-- where a constructor ends -/
def m_e (mi : Nat) : Nat := match (([cd_0, cd_1, cd_2, cd_3, cd_4].getD mi cd_49).getLast?) with
  | some z => z.1
  | none => 0
def ev_g (n : Nat) : Nat → Nat → List aV → aM → Option (Option aV × aM)
  | 0, _, _, _ => none
  | d + 1, mj, av, M => match run_p n (ev_g n d) (m_C mj) (m_e mj) 2000 (0, i_L mj av, [], M) with
    | none => none
    | some S => (match r_F (m_C mj) S with
      | some (bl, y, M1) => (match bl && Nat.ble mj 83 && !(Nat.beq mj 83) with
        | true => some (y, M1)
        | false => none)
      | none => none)
theorem run_ok {n L : Nat} {xs : Nat → Int32} {call : Nat → List aV → aM → Option (Option aV × aM)} {C : Nat → List aV → aM → Option aV → aM → Prop} {cd : Nat → Option aI} {stop : Nat} (hC : ∀ mj av M y M1, call mj av M = some (y, M1) → C mj av M y M1) : ∀ (k : Nat) (S S1 : aS) (l' : List (Option aV)), run_p n call cd stop k S = some S1 → l_le S.2.1 l' → ∃ l1, l_le S1.2.1 l1 ∧ G_o true n L xs C cd (fun S' => S' = (S1.1, l1, S1.2.2)) (S.1, l', S.2.2) := by
  intro k
  induction k with
  | zero => intro S S1 l' h; cases h
  | succ k ih =>
    intro S S1 l' h hl
    unfold run_p at h
    split at h
    · cases h
      exact ⟨l', hl, G_end rfl⟩
    · split at h
      · rename_i bl mj av rest hcF
        split at h
        · split at h
          · rename_i y M1 hcall
            obtain ⟨l1, h1, h2⟩ := ih (S.1 + 3, S.2.1, y.toList ++ rest, M1) S1 l' h hl
            exact ⟨l1, h1, G_call (S := (S.1, l', S.2.2)) (y := y) (M1 := M1) hcF rfl (hC _ _ _ _ _ hcall) h2⟩
          · cases h
        · cases h
      · split at h
        · rename_i hal
          split at h
          · rename_i bl S2 hst
            split at h
            · unfold st_F at hst
              split at hst
              · cases hst
              · rename_i en hen
                have hne : en.1 ≠ .arraylength := by
                  intro z
                  obtain ⟨i, a, b, x⟩ := en
                  dsimp only at z
                  subst z
                  unfold n_al at hal
                  rw [hen] at hal
                  cases hal
                obtain ⟨l2, h1, h2⟩ := st_l (L := L) (xs := xs) hl hne hst
                obtain ⟨l1, h3, h4⟩ := ih S2 S1 l2 h h1
                refine ⟨l1, h3, G_step (S1 := (S2.1, l2, S2.2.2)) (bl := true) ?_ rfl h4⟩
                unfold st_F
                dsimp only
                rw [hen]
                exact h2
            · cases h
          · cases h
        · cases h
theorem ev_ok {n L : Nat} {xs : Nat → Int32} : ∀ (d mj : Nat) (av : List aV) (M : aM) (y : Option aV) (M1 : aM), ev_g n d mj av M = some (y, M1) → E_v true n L xs d mj av M y M1 := by
  intro d
  induction d with
  | zero => intro mj av M y M1 h; cases h
  | succ d ih =>
    intro mj av M y M1 h
    unfold ev_g at h
    split at h
    · cases h
    · rename_i S hrun
      split at h
      · rename_i bl y2 M2 hr
        split at h
        · rename_i hb
          cases h
          rw [Bool.and_eq_true, Bool.and_eq_true] at hb
          obtain ⟨⟨hb1, hb2⟩, hb3⟩ := hb
          have hb2 := Nat.le_of_ble_eq_true hb2
          have hb3 : mj ≠ 83 := by
            intro z
            rw [z] at hb3
            cases hb3
          obtain ⟨l1, h1, h2⟩ := run_ok (L := L) (xs := xs) (C := E_v true n L xs d) ih 2000 _ S (i_L mj av) hrun ⟨rfl, fun _ _ z => z⟩
          refine ⟨by show mj < 83; omega, G_seq h2 fun S' hS' => G_end ?_⟩
          rw [hS']
          rw [hb1] at hr
          exact hr
        · cases h
      · cases h
