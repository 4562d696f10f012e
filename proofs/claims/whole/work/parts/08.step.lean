/-- how long an instruction is (a switch: by its row) -/
def i_l (i : Instr) (b : Nat) : Nat := match i with
  | .bipush _ => 2
  | .sipush _ => 3
  | .ldc2_w _ => 3
  | .iload _ => 2
  | .aload _ => 2
  | .istore _ => 2
  | .astore _ => 2
  | .iinc _ _ => 3
  | .ifCond _ _ => 3
  | .if_icmp _ _ => 3
  | .goto _ => 3
  | .tableswitch _ _ _ _ => b
  | .getfield _ => 3
  | .putfield _ => 3
  | .new _ => 3
  | .newarray _ => 2
  | .anewarray _ => 3
  | .invokespecial _ => 3
  | .invokevirtual _ => 3
  | .invokestatic _ => 3
  | _ => 1
/-- an entry of a method's table fits its code -/
def e_k (mi pc : Nat) (i : Instr) (a b : Nat) (x : Int32) : Prop := decode (m_B mi) pc = .ok (i, i_l i b) ∧ (match i with
  | .iconst t => Int32.ofInt t = x
  | .bipush t => (Int8.ofInt t).toInt32 = x
  | .sipush t => (Int16.ofInt t).toInt32 = x
  | .ldc2_w t => Cond.constantLong (R_o (m_o mi)) t x.toInt64 ∈ am_tb
  | .iload_n t => t.val = a
  | .iload t => t = a
  | .aload_n t => t.val = a
  | .aload t => t = a
  | .istore_n t => t.val = a ∧ a < m_L mi
  | .istore t => t = a ∧ a < m_L mi
  | .astore_n t => t.val = a ∧ a < m_L mi
  | .astore t => t = a ∧ a < m_L mi
  | .iinc t j => t = a ∧ Int32.ofInt j = x ∧ a < m_L mi
  | .ifCond _ off => (pc : Int) + off = (a : Int)
  | .if_icmp _ off => (pc : Int) + off = (a : Int)
  | .goto off => (pc : Int) + off = (a : Int)
  | .getfield t => (m_o mi, t, a, b) ∈ F_T
  | .putfield t => (m_o mi, t, a, b) ∈ F_T ∧ ((T_o a b).2.2.2 = true → m_k mi = 2 ∧ m_o mi = a)
  | .new t => (m_o mi, t, a) ∈ C_T
  | .newarray t => (newarray.typeOf t = .int ∧ a = 0) ∨ (newarray.typeOf t = .boolean ∧ a = 1)
  | .anewarray t => (m_o mi, t, a) ∈ Q_T
  | .invokespecial t => (a = 999 ∧ (m_o mi, t) ∈ O_T) ∨ (¬ a = 999 ∧ (m_o mi, t, a) ∈ M_T ∧ m_k a = 2)
  | .invokevirtual t => (m_o mi, t, a) ∈ M_T ∧ m_k a = 0
  | .invokestatic t => (m_o mi, t, a) ∈ M_T ∧ m_k a = 1 ∧ m_o a = m_o mi
  | .ireturn => (a = 0 ∧ m_R mi = some .int) ∨ (a = 1 ∧ m_R mi = some .boolean)
  | .lreturn => m_R mi = some .long
  | .areturn => m_R mi = some (.object (R_o 2))
  | .return_ => m_R mi = none
  | _ => True)
theorem f_G_c {cs : Bool} {n a b pc : Nat} {l : List (Option aV)} {M : aM} {q : Nat × Nat} {r : List aV} {z : Bool × aS} (h : f_G cs n a b pc l M q r = some z) : M.2.2 ≤ z.2.2.2.2.2.2 := by
  unfold f_G at h
  split at h
  · split at h <;> first | (cases h; exact Nat.le_refl _) | cases h
  · cases h
theorem f_put_c {cs : Bool} {a b pc : Nat} {l : List (Option aV)} {M : aM} {st : List aV} {z : Bool × aS} (h : f_put cs a b pc l M st = some z) : M.2.2 ≤ z.2.2.2.2.2.2 := by
  unfold f_put at h
  split at h
  · unfold f_P at h
    split at h
    · split at h <;> first | (cases h; dsimp only; rw [m_wr_c]; exact Nat.le_refl _) | cases h
    · cases h
  · unfold f_Q at h
    split at h
    · split at h <;> first | (cases h; dsimp only; rw [m_wr_c]; exact Nat.le_refl _) | cases h
    · cases h
  · cases h
theorem f_ld_c {cs : Bool} {n L : Nat} {xs : Nat → Int32} {pc : Nat} {l : List (Option aV)} {M : aM} {x : Int32} {q : Nat × Nat} {r : List aV} {z : Bool × aS} (h : f_ild n L xs pc l M x q r = some z ∨ f_zld n pc l M x q r = some z ∨ f_ald cs n pc l M x q r = some z ∨ f_len n L pc l M q r = some z) : M.2.2 ≤ z.2.2.2.2.2.2 := by
  rcases h with h | h | h | h
  · unfold f_ild at h
    split at h
    · cases h
      exact Nat.le_refl _
    · split at h <;> first | (cases h; exact Nat.le_refl _) | cases h
  · unfold f_zld at h
    split at h <;> first | (cases h; exact Nat.le_refl _) | cases h
  · unfold f_ald at h
    split at h <;> first | (cases h; exact Nat.le_refl _) | cases h
  · unfold f_len at h
    split at h
    · cases h
      exact Nat.le_refl _
    · split at h <;> first | (cases h; exact Nat.le_refl _) | cases h
theorem f_st_c {cs : Bool} {n : Nat} {pc : Nat} {l : List (Option aV)} {M : aM} {y x : Int32} {q2 q : Nat × Nat} {r : List aV} {z : Bool × aS} (h : f_ist n pc l M y x q r = some z ∨ f_zst n pc l M y x q r = some z ∨ f_ast cs n pc l M q2 x q r = some z) : M.2.2 ≤ z.2.2.2.2.2.2 := by
  rcases h with h | h | h
  · unfold f_ist at h
    split at h <;> first | (cases h; dsimp only; rw [m_wr_c]; exact Nat.le_refl _) | cases h
  · unfold f_zst at h
    split at h <;> first | (cases h; dsimp only; rw [m_wr_c]; exact Nat.le_refl _) | cases h
  · unfold f_ast at h
    split at h
    · cases h
      dsimp only
      cases cs with
      | true => rw [cond_true, m_wr_c, m_wr_c]; exact Nat.le_refl _
      | false => rw [cond_false, m_wr_c]; exact Nat.le_refl _
    · split at h <;> first | (cases h; dsimp only; rw [m_wr_c]; exact Nat.le_refl _) | cases h
theorem f_new_c {cs : Bool} {n a pc : Nat} {l : List (Option aV)} {st : List aV} {M : aM} {x : Int32} {z : Bool × aS} (h : f_new cs n a pc l st M = some z ∨ f_nwa cs n a pc l M x st = some z) : M.2.2 ≤ z.2.2.2.2.2.2 := by
  rcases h with h | h
  · unfold f_new at h
    split at h
    · split at h
      · cases h
        dsimp only
        rw [m_al_c]
        omega
      · cases h
    · cases h
  · unfold f_nwa at h
    split at h
    · split at h
      · cases h
        dsimp only
        rw [m_al_c]
        omega
      · cases h
    · cases h
theorem st_c {cs : Bool} {n L : Nat} {xs : Nat → Int32} {i : Instr} {a b : Nat} {x : Int32} {pc : Nat} {l : List (Option aV)} {st : List aV} {M : aM} {z : Bool × aS} (h : st_I cs n L xs i a b x pc l st M = some z) : M.2.2 ≤ z.2.2.2.2.2.2 := by
  unfold st_I at h
  split at h
  all_goals first
    | (cases h; done)
    | (cases h; exact Nat.le_refl _)
    | (obtain ⟨y, -, rfl⟩ := Option.map_eq_some_iff.mp h; exact Nat.le_refl _)
    | (obtain ⟨y, r, rfl, h⟩ := o_1_inv h; cases h; exact Nat.le_refl _)
    | (obtain ⟨y, w, r, rfl, h⟩ := o_2_inv h; cases h; exact Nat.le_refl _)
    | (obtain ⟨y, w, r, rfl, h⟩ := o_L_inv h; cases h; exact Nat.le_refl _)
    | (obtain ⟨y, r, rfl, h⟩ := o_R_inv h; cases h; exact Nat.le_refl _)
    | (obtain ⟨y, r, rfl, -, h⟩ := d_1_inv h; cases h; exact Nat.le_refl _)
    | (obtain ⟨y, r, rfl, -, h⟩ := d_1_inv h; obtain ⟨y, r, rfl, -, h⟩ := d_1_inv h; cases h; exact Nat.le_refl _)
    | (obtain ⟨y, r, rfl, h⟩ := o_R_inv h; exact f_G_c h)
    | exact f_put_c h
    | (obtain ⟨y, q, r, rfl, h⟩ := o_IR_inv h; exact f_ld_c (cs := cs) (n := n) (L := L) (xs := xs) (Or.inl h))
    | (obtain ⟨y, q, r, rfl, h⟩ := o_IR_inv h; exact f_ld_c (cs := cs) (n := n) (L := L) (xs := xs) (Or.inr (Or.inl h)))
    | (obtain ⟨y, q, r, rfl, h⟩ := o_IR_inv h; exact f_ld_c (cs := cs) (n := n) (L := L) (xs := xs) (Or.inr (Or.inr (Or.inl h))))
    | (obtain ⟨q, r, rfl, h⟩ := o_R_inv h; exact f_ld_c (cs := cs) (n := n) (L := L) (xs := xs) (x := 0) (Or.inr (Or.inr (Or.inr h))))
    | (obtain ⟨y, w, q, r, rfl, h⟩ := o_IIR_inv h; exact f_st_c (cs := cs) (q2 := (0, 0)) (Or.inl h))
    | (obtain ⟨y, w, q, r, rfl, h⟩ := o_IIR_inv h; exact f_st_c (cs := cs) (q2 := (0, 0)) (Or.inr (Or.inl h)))
    | (obtain ⟨y, w, q, r, rfl, h⟩ := o_RIR_inv h; exact f_st_c (y := 0) (Or.inr (Or.inr h)))
    | exact f_new_c (x := 0) (Or.inl h)
    | (obtain ⟨y, r, rfl, h⟩ := o_1_inv h; exact f_new_c (Or.inr h))
    | (split at h; (obtain ⟨y, r, rfl, h⟩ := o_R_inv h; cases h; exact Nat.le_refl _); cases h)
theorem stF_c {cs : Bool} {n L : Nat} {xs : Nat → Int32} {cd : Nat → Option aI} {S : aS} {z : Bool × aS} (h : st_F cs n L xs cd S = some z) : S.2.2.2.2.2 ≤ z.2.2.2.2.2.2 := by
  unfold st_F at h
  split at h
  · cases h
  · exact st_c h
/-- the step's row -/
theorem am_step {p : Program} {l : Launch} {e : Env} {R : Room} {s : State} {m : MethodId} {args : Array Value} {below : List Frame} {meth : Method} {c : Code} {Q : State → Prop} {D : va_G} {ty : Nat → ClassId} {G : Nat → Nat → Nat} {b z0 : Nat} {cs : Bool} {n L : Nat} {xs : Nat → Int32} {mi c0 : Nat} {S S' : aS} (hC : C_X p R s m args meth c D ty G b z0 n L xs mi) (hs0 : s.heap.size = z0 + c0) (hc0 : c0 ≤ S.2.2.2.2.2) (hr : S'.2.2.2.2.2 - c0 ≤ R.cells ∧ s_l n S'.2.2.2.2.2 - s_l n c0 ≤ R.slots)
    (hcd : ∀ pc i a b x, m_C mi pc = some (i, a, b, x) → e_k mi pc i a b x) (h : st_F cs n L xs (m_C mi) S = some (true, S')) (k : A_W p l e R s m args below meth c Q D ty G z0 cs n (m_L mi) c0 S') : A_W p l e R s m args below meth c Q D ty G z0 cs n (m_L mi) c0 S := by
  obtain ⟨pc, ll, st, M⟩ := S
  unfold st_F at h
  dsimp only at h hc0
  split at h
  · cases h
  · rename_i en hen
    obtain ⟨i, a, bb, x⟩ := en
    obtain ⟨hd, hk⟩ := hcd pc i a bb x hen
    dsimp only at h
    cases i
    case iconst t => exact si_iconst hC hd hk h k
    case bipush t => exact si_bipush hC hd hk h k
    case sipush t => exact si_sipush hC hd hk h k
    case ldc2_w t => exact si_ldc2_w hC hd hk h k
    case iload_n t => exact si_iload_n hC hd hk h k
    case iload t => exact si_iload hC hd hk h k
    case aload_n t => exact si_aload_n hC hd hk h k
    case aload t => exact si_aload hC hd hk h k
    case istore_n t => exact si_istore_n hC hd hk.1 hk.2 h k
    case istore t => exact si_istore hC hd hk.1 hk.2 h k
    case astore_n t => exact si_astore_n hC hd hk.1 hk.2 h k
    case astore t => exact si_astore hC hd hk.1 hk.2 h k
    case iinc t j => exact si_iinc hC hd hk.1 hk.2.1 hk.2.2 h k
    case iadd => exact si_iadd hC hd h k
    case isub => exact si_isub hC hd h k
    case imul => exact si_imul hC hd h k
    case iand => exact si_iand hC hd h k
    case irem => exact si_irem hC hd h k
    case i2l => exact si_i2l hC hd h k
    case ladd => exact si_ladd hC hd h k
    case lmul => exact si_lmul hC hd h k
    case lcmp => exact si_lcmp hC hd h k
    case dup => exact si_dup hC hd h k
    case pop => exact si_pop hC hd h k
    case dup_x1 => exact si_dup_x1 hC hd h k
    case dup2 => exact si_dup2 hC hd h k
    case ifCond cn off => exact si_ifCond hC hd hk h k
    case if_icmp cn off => exact si_if_icmp hC hd hk h k
    case goto off => exact si_goto hC hd hk h k
    case tableswitch d lo hi offs => exact si_tableswitch hC hd h k
    case getfield t => exact si_getfield hC hd hk h k
    case putfield t => exact si_putfield hC hs0 hc0 hd hk.1 hk.2 h k
    case iaload => exact si_iaload hC hd h k
    case baload => exact si_baload hC hd h k
    case aaload => exact si_aaload hC hd h k
    case iastore => exact si_iastore hC hs0 hc0 hd h k
    case bastore => exact si_bastore hC hs0 hc0 hd h k
    case aastore => exact si_aastore hC hs0 hc0 hd h k
    case arraylength => exact si_arraylength hC hd h k
    case new t =>
      have e1 : S'.2.2.2.2.2 = M.2.2 + 1 := by
        have h' : f_new cs n a pc ll st M = some (true, S') := h
        unfold f_new at h'
        split at h'
        · split at h'
          · cases h'
            exact m_al_c _ _ _
          · cases h'
        · cases h'
      rw [e1] at hr
      exact si_new hC hc0 hr hd hk h k
    case newarray t =>
      have e1 : S'.2.2.2.2.2 = M.2.2 + 1 := by
        obtain ⟨y, r, -, h'⟩ := o_1_inv h
        unfold f_nwa at h'
        split at h'
        · split at h'
          · obtain ⟨-, rfl⟩ := Prod.mk.inj (Option.some.inj h')
            exact m_al_c _ _ _
          · cases h'
        · cases h'
      rw [e1] at hr
      exact si_newarray hC hc0 hr hd hk h k
    case anewarray t =>
      have e1 : S'.2.2.2.2.2 = M.2.2 + 1 := by
        obtain ⟨y, r, -, h'⟩ := o_1_inv h
        unfold f_nwa at h'
        split at h'
        · split at h'
          · obtain ⟨-, rfl⟩ := Prod.mk.inj (Option.some.inj h')
            exact m_al_c _ _ _
          · cases h'
        · cases h'
      rw [e1] at hr
      exact si_anewarray hC hc0 hr hd hk h k
    case invokespecial t =>
      have h' : (match Nat.beq a 999 with
        | true => o_R st (fun _ r => some (Nat.ble r.length 4, pc + 3, ll, r, M))
        | false => none) = some (true, S') := h
      split at h'
      · rename_i ha
        have ha : a = 999 := Nat.eq_of_beq_eq_true ha
        rcases hk with ⟨-, hk⟩ | ⟨hk, -⟩
        · exact si_objinit hC hd (O_ok _ hk) h' k
        · exact absurd ha hk
      · cases h'
    all_goals cases h
