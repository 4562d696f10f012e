/-! THE SMALL MACHINE: references are keys (kind, index), all ints of all cells stand in two functions, a step is a plain function. Part 03 proves that what it does the machine does. -/
abbrev mV : Type := Nat → Nat → Nat → Int32
abbrev aV : Type := Int32 ⊕ ((Nat × Nat) ⊕ Int64)
abbrev aM : Type := mV × mV × Nat
abbrev aS : Type := Nat × List (Option aV) × List aV × aM
def ix (x : Int32) : Nat := x.toNatClampNeg
def m_rd (M : aM) (k i : Nat) : Nat → Int32 := cond (Nat.ble 20 k) (M.2.1 k i) (M.1 k i)
def m_u3 (v : mV) (k i j : Nat) (x : Int32) : mV := fun k' i' j' => if k' = k ∧ j' = j ∧ i' = i then x else v k' i' j'
def m_wr (M : aM) (k i j : Nat) (x : Int32) : aM := cond (Nat.ble 20 k) (M.1, m_u3 M.2.1 k i j x, M.2.2) (m_u3 M.1 k i j x, M.2.1, M.2.2)
def m_z (v : mV) (k i : Nat) : mV := fun k' i' j' => if k' = k ∧ i' = i then 0 else v k' i' j'
def m_al (M : aM) (k i : Nat) : aM := cond (Nat.ble 20 k) (M.1, m_z M.2.1 k i, M.2.2 + 1) (m_z M.1 k i, M.2.1, M.2.2 + 1)
theorem m_rd_wr (M : aM) (k i j : Nat) (x : Int32) (k' i' : Nat) : m_rd (m_wr M k i j x) k' i' = if k' = k ∧ i' = i then upd (m_rd M k i) j x else m_rd M k' i' := by
  funext q
  unfold m_rd m_wr
  by_cases h : k' = k ∧ i' = i
  · obtain ⟨rfl, rfl⟩ := h
    cases hb : Nat.ble 20 k' <;> simp [m_u3, upd]
  · rw [if_neg h]
    have h2 : ¬ (k' = k ∧ q = j ∧ i' = i) := fun z => h ⟨z.1, z.2.2⟩
    cases hb : Nat.ble 20 k <;> cases hb' : Nat.ble 20 k' <;> simp [m_u3, h2]
theorem m_rd_al (M : aM) (k i : Nat) (k' i' : Nat) : m_rd (m_al M k i) k' i' = if k' = k ∧ i' = i then (fun _ => 0) else m_rd M k' i' := by
  funext q
  unfold m_rd m_al
  by_cases h : k' = k ∧ i' = i
  · obtain ⟨rfl, rfl⟩ := h
    cases hb : Nat.ble 20 k' <;> simp [m_z]
  · rw [if_neg h]
    cases hb : Nat.ble 20 k <;> cases hb' : Nat.ble 20 k' <;> simp [m_z, h]
theorem m_wr_c (M : aM) (k i j : Nat) (x : Int32) : (m_wr M k i j x).2.2 = M.2.2 := by
  unfold m_wr
  cases Nat.ble 20 k <;> rfl
theorem m_al_c (M : aM) (k i : Nat) : (m_al M k i).2.2 = M.2.2 + 1 := by
  unfold m_al
  cases Nat.ble 20 k <;> rfl
-- kinds. 0 RumourCircle, 1 Node[], 2 Row, 3 Message[], 4 Node, 5 6 7 its ints, 8 Buffer, 9 10 11 its ints, 12 Message, 13 14 15 its ints; 20 the reference, 21 .. 42 its arrays; 50 the script
/-- the class of an object's kind: 0 RumourCircle, 1 Buffer, 2 Message, 3 Node, 4 Row, 5 the reference -/
def k_c (k : Nat) : Nat := [0, 9, 4, 9, 3, 9, 9, 9, 1, 9, 9, 9, 2, 9, 9, 9, 9, 9, 9, 9, 5].getD k 9
/-- an array's kind: 0 int, 1 boolean, 2 Node, 3 Message -/
def k_t (k : Nat) : Nat := [9, 2, 9, 3, 9, 0, 0, 0, 9, 0, 0, 0, 9, 0, 0, 0, 9, 9, 9, 9, 9, 1, 0, 0, 0, 1, 0, 0, 0, 0, 0, 0, 1, 0, 0, 0, 0, 0, 0, 0, 0, 0, 0].getD k 9
def k_n (n k : Nat) : Nat := [0, n, 0, 25, 0, n, n, n, 0, n, n, n, 0, 2, 2, 2, 0, 0, 0, 0, 0, 6, 36, 36, 36, 36, 36, 36, 36, 6, 6, 6, 6, 25, 25, 25, 25, 25, 25, 25, 50, 50, 50].getD k 0
/-- an object's fields: an int (its place is the field's number), or the key of the cell that it names -/
def k_f (k i : Nat) : List (Option (Nat × Nat)) :=
  [[none, some (1, 0), some (2, 0)], [], [some (3, 0), none], [], [none, none, some (5, i), some (6, i), some (7, i), some (8, i), none, none, none, none, none], [], [], [],
   [some (9, i), some (10, i), some (11, i)], [], [], [], [none, none, none, none, none, none, none, some (13, i), some (14, i), some (15, i)], [], [], [], [], [], [], [],
   [none, some (21, 0), some (22, 0), some (23, 0), some (24, 0), some (25, 0), some (26, 0), some (27, 0), some (28, 0), some (29, 0), some (30, 0), some (31, 0), some (32, 0), none, some (33, 0), some (34, 0), some (35, 0), some (36, 0), some (37, 0), some (38, 0), some (39, 0), some (40, 0), some (41, 0), some (42, 0)]].getD k []
/-- the element j of an array of references, by the number x that stands there -/
def k_e (k j : Nat) (x : Int32) : Nat × Nat := cond (Nat.beq k 1) (4, j) (12, ix x)
/-- all keys, in the order in which the cells are made -/
def K_T (n : Nat) : List (Nat × Nat) := [(0, 0), (1, 0)] ++ (List.range n).flatMap (fun a => [(4, a), (5, a), (6, a), (7, a), (8, a), (9, a), (10, a), (11, a)]) ++ [(2, 0), (3, 0)] ++ (List.range 25).flatMap (fun i => [(12, i), (13, i), (14, i), (15, i)]) ++ (List.range 23).map (fun q => (20 + q, 0))
/-- how many slots a cell has -/
def k_s (n k : Nat) : Nat := cond (Nat.beq (k_c k) 9) (k_n n k) ([3, 3, 10, 11, 2, 24].getD (k_c k) 0)
def s_l (n c : Nat) : Nat := (((K_T n).take c).map (fun q => k_s n q.1)).sum
def i_b (x : Int32) (len : Nat) : Bool := decide (0 ≤ x) && decide (ix x < len)
def b_01 (x : Int32) : Bool := decide (x = 0) || decide (x = 1)
/-- the boolean fields -/
def z_F (ci f : Nat) : Bool := Nat.beq ci 3 && (Nat.beq f 6 || Nat.beq f 10)
theorem i_b_in {x : Int32} {len : Nat} (h : i_b x len = true) : vp_in x len := by
  unfold i_b at h
  simp only [Bool.and_eq_true, decide_eq_true_eq] at h
  obtain ⟨h1, h2⟩ := h
  rintro (q | q)
  · rw [Int32.lt_iff_toInt_lt] at q
    rw [Int32.le_iff_toInt_le] at h1
    omega
  · unfold ix at h2
    omega
theorem b_01_or {x : Int32} (h : b_01 x = true) : x = 0 ∨ x = 1 := by
  unfold b_01 at h
  simpa using h
def g_I (l : List (Option aV)) (a : Nat) : Option Int32 := match l[a]? with
  | some (some (.inl y)) => some y
  | _ => none
def g_R (l : List (Option aV)) (a : Nat) : Option (Nat × Nat) := match l[a]? with
  | some (some (.inr (.inl q))) => some q
  | _ => none
section OO
variable {α : Type}
def o_1 (st : List aV) (f : Int32 → List aV → Option α) : Option α := match st with
  | .inl x :: r => f x r
  | _ => none
def o_2 (st : List aV) (f : Int32 → Int32 → List aV → Option α) : Option α := match st with
  | .inl y :: .inl x :: r => f x y r
  | _ => none
def o_L (st : List aV) (f : Int64 → Int64 → List aV → Option α) : Option α := match st with
  | .inr (.inr y) :: .inr (.inr x) :: r => f x y r
  | _ => none
def o_R (st : List aV) (f : Nat × Nat → List aV → Option α) : Option α := match st with
  | .inr (.inl q) :: r => f q r
  | _ => none
def o_IR (st : List aV) (f : Int32 → Nat × Nat → List aV → Option α) : Option α := match st with
  | .inl x :: .inr (.inl q) :: r => f x q r
  | _ => none
def o_RR (st : List aV) (f : Nat × Nat → Nat × Nat → List aV → Option α) : Option α := match st with
  | .inr (.inl q2) :: .inr (.inl q) :: r => f q2 q r
  | _ => none
def o_IIR (st : List aV) (f : Int32 → Int32 → Nat × Nat → List aV → Option α) : Option α := match st with
  | .inl y :: .inl x :: .inr (.inl q) :: r => f y x q r
  | _ => none
def o_RIR (st : List aV) (f : Nat × Nat → Int32 → Nat × Nat → List aV → Option α) : Option α := match st with
  | .inr (.inl q2) :: .inl x :: .inr (.inl q) :: r => f q2 x q r
  | _ => none
def d_1 (st : List aV) (f : aV → List aV → Option α) : Option α := match st with
  | .inl x :: r => f (.inl x) r
  | .inr (.inl q) :: r => f (.inr (.inl q)) r
  | _ => none
theorem o_1_inv {st : List aV} {f : Int32 → List aV → Option α} {z : α} (h : o_1 st f = some z) : ∃ x r, st = .inl x :: r ∧ f x r = some z := by
  unfold o_1 at h
  split at h
  · exact ⟨_, _, rfl, h⟩
  · cases h
theorem o_2_inv {st : List aV} {f : Int32 → Int32 → List aV → Option α} {z : α} (h : o_2 st f = some z) : ∃ x y r, st = .inl y :: .inl x :: r ∧ f x y r = some z := by
  unfold o_2 at h
  split at h
  · exact ⟨_, _, _, rfl, h⟩
  · cases h
theorem o_L_inv {st : List aV} {f : Int64 → Int64 → List aV → Option α} {z : α} (h : o_L st f = some z) : ∃ x y r, st = .inr (.inr y) :: .inr (.inr x) :: r ∧ f x y r = some z := by
  unfold o_L at h
  split at h
  · exact ⟨_, _, _, rfl, h⟩
  · cases h
theorem o_R_inv {st : List aV} {f : Nat × Nat → List aV → Option α} {z : α} (h : o_R st f = some z) : ∃ q r, st = .inr (.inl q) :: r ∧ f q r = some z := by
  unfold o_R at h
  split at h
  · exact ⟨_, _, rfl, h⟩
  · cases h
theorem o_IR_inv {st : List aV} {f : Int32 → Nat × Nat → List aV → Option α} {z : α} (h : o_IR st f = some z) : ∃ x q r, st = .inl x :: .inr (.inl q) :: r ∧ f x q r = some z := by
  unfold o_IR at h
  split at h
  · exact ⟨_, _, _, rfl, h⟩
  · cases h
theorem o_RR_inv {st : List aV} {f : Nat × Nat → Nat × Nat → List aV → Option α} {z : α} (h : o_RR st f = some z) : ∃ q2 q r, st = .inr (.inl q2) :: .inr (.inl q) :: r ∧ f q2 q r = some z := by
  unfold o_RR at h
  split at h
  · exact ⟨_, _, _, rfl, h⟩
  · cases h
theorem o_IIR_inv {st : List aV} {f : Int32 → Int32 → Nat × Nat → List aV → Option α} {z : α} (h : o_IIR st f = some z) : ∃ y x q r, st = .inl y :: .inl x :: .inr (.inl q) :: r ∧ f y x q r = some z := by
  unfold o_IIR at h
  split at h
  · exact ⟨_, _, _, _, rfl, h⟩
  · cases h
theorem o_RIR_inv {st : List aV} {f : Nat × Nat → Int32 → Nat × Nat → List aV → Option α} {z : α} (h : o_RIR st f = some z) : ∃ q2 x q r, st = .inr (.inl q2) :: .inl x :: .inr (.inl q) :: r ∧ f q2 x q r = some z := by
  unfold o_RIR at h
  split at h
  · exact ⟨_, _, _, _, rfl, h⟩
  · cases h
theorem d_1_inv {st : List aV} {f : aV → List aV → Option α} {z : α} (h : d_1 st f = some z) : ∃ v r, st = v :: r ∧ (∀ x, v ≠ .inr (.inr x)) ∧ f v r = some z := by
  unfold d_1 at h
  split at h
  · exact ⟨_, _, rfl, (fun x q => by cases q), h⟩
  · exact ⟨_, _, rfl, (fun x q => by cases q), h⟩
  · cases h
end OO
theorem g_I_inv {l : List (Option aV)} {a : Nat} {y : Int32} (h : g_I l a = some y) : l[a]? = some (some (.inl y)) := by
  unfold g_I at h
  split at h
  · rename_i e
    rw [e]
    cases h
    rfl
  · cases h
theorem g_R_inv {l : List (Option aV)} {a : Nat} {q : Nat × Nat} (h : g_R l a = some q) : l[a]? = some (some (.inr (.inl q))) := by
  unfold g_R at h
  split at h
  · rename_i e
    rw [e]
    cases h
    rfl
  · cases h
def j_1 (c : Jvm.ClassFile.Cond) (y : Int32) (a b : Nat) : Nat := match c with
  | .eq => if y = 0 then a else b
  | .ne => if ¬ y = 0 then a else b
  | .lt => if y < 0 then a else b
  | .ge => if 0 ≤ y then a else b
  | .gt => if 0 < y then a else b
  | .le => if y ≤ 0 then a else b
def j_2 (c : Jvm.ClassFile.Cond) (x y : Int32) (a b : Nat) : Nat := match c with
  | .eq => if x = y then a else b
  | .ne => if ¬ x = y then a else b
  | .lt => if x < y then a else b
  | .ge => if y ≤ x then a else b
  | .gt => if y < x then a else b
  | .le => if x ≤ y then a else b
def s_o (d lo hi : Int) (offs : Array Int) (x : Int32) : Option Int := if x.toInt < lo ∨ hi < x.toInt then some d else offs[(x.toInt - lo).toNat]?
def s_w (pc : Nat) (d lo hi : Int) (offs : Array Int) (x : Int32) : Nat := ((pc : Int) + (s_o d lo hi offs x).getD 0).toNat
def s_b (pc : Nat) (d lo hi : Int) (offs : Array Int) (x : Int32) : Bool := (s_o d lo hi offs x).isSome && decide (0 ≤ (pc : Int) + (s_o d lo hi offs x).getD 0)
/-- a field read -/
def f_G (cs : Bool) (n a b pc : Nat) (l : List (Option aV)) (M : aM) (q : Nat × Nat) (r : List aV) : Option (Bool × aS) := match Nat.beq (k_c q.1) a with
  | true => (match (k_f q.1 q.2)[b]? with
    | some none => some (true, pc + 3, l, .inl (m_rd M q.1 q.2 b) :: r, M)
    | some (some q2) => some (!cs || (!(decide (m_rd M q.1 q.2 (100 + b) = 0)) && decide (q2 ∈ (K_T n).take M.2.2)), pc + 3, l, .inr (.inl q2) :: r, M)
    | none => none)
  | false => none
def f_P (a b pc : Nat) (l : List (Option aV)) (M : aM) (y : Int32) (q : Nat × Nat) (r : List aV) : Option (Bool × aS) := match Nat.beq (k_c q.1) a with
  | true => (match (k_f q.1 q.2)[b]? with
    | some none => some (!(z_F a b) || b_01 y, pc + 3, l, r, m_wr M q.1 q.2 b y)
    | _ => none)
  | false => none
def f_Q (cs : Bool) (a b pc : Nat) (l : List (Option aV)) (M : aM) (q2 q : Nat × Nat) (r : List aV) : Option (Bool × aS) := match Nat.beq (k_c q.1) a with
  | true => (match (k_f q.1 q.2)[b]? with
    | some (some q3) => some (cs && decide (q2 = q3), pc + 3, l, r, m_wr M q.1 q.2 (100 + b) 1)
    | _ => none)
  | false => none
def f_put (cs : Bool) (a b pc : Nat) (l : List (Option aV)) (M : aM) (st : List aV) : Option (Bool × aS) := match st with
  | .inl y :: .inr (.inl q) :: r => f_P a b pc l M y q r
  | .inr (.inl q2) :: .inr (.inl q) :: r => f_Q cs a b pc l M q2 q r
  | _ => none
def f_ild (n L : Nat) (xs : Nat → Int32) (pc : Nat) (l : List (Option aV)) (M : aM) (x : Int32) (q : Nat × Nat) (r : List aV) : Option (Bool × aS) := match Nat.beq q.1 50 with
  | true => some (i_b x L, pc + 1, l, .inl (xs (ix x)) :: r, M)
  | false => (match Nat.beq (k_t q.1) 0 with
    | true => some (i_b x (k_n n q.1), pc + 1, l, .inl (m_rd M q.1 q.2 (ix x)) :: r, M)
    | false => none)
def f_zld (n : Nat) (pc : Nat) (l : List (Option aV)) (M : aM) (x : Int32) (q : Nat × Nat) (r : List aV) : Option (Bool × aS) := match Nat.beq (k_t q.1) 1 with
  | true => some (i_b x (k_n n q.1), pc + 1, l, .inl (m_rd M q.1 q.2 (ix x)) :: r, M)
  | false => none
def f_ald (cs : Bool) (n : Nat) (pc : Nat) (l : List (Option aV)) (M : aM) (x : Int32) (q : Nat × Nat) (r : List aV) : Option (Bool × aS) := match Nat.beq (k_t q.1) 2 || Nat.beq (k_t q.1) 3 with
  | true => some (i_b x (k_n n q.1) && ((!cs || !(decide (m_rd M q.1 q.2 (100 + ix x) = 0))) && decide (k_e q.1 (ix x) (m_rd M q.1 q.2 (ix x)) ∈ (K_T n).take M.2.2)), pc + 1, l, .inr (.inl (k_e q.1 (ix x) (m_rd M q.1 q.2 (ix x)))) :: r, M)
  | false => none
def f_ist (n : Nat) (pc : Nat) (l : List (Option aV)) (M : aM) (y x : Int32) (q : Nat × Nat) (r : List aV) : Option (Bool × aS) := match Nat.beq (k_t q.1) 0 with
  | true => some (i_b x (k_n n q.1), pc + 1, l, r, m_wr M q.1 q.2 (ix x) y)
  | false => none
def f_zst (n : Nat) (pc : Nat) (l : List (Option aV)) (M : aM) (y x : Int32) (q : Nat × Nat) (r : List aV) : Option (Bool × aS) := match Nat.beq (k_t q.1) 1 with
  | true => some (i_b x (k_n n q.1) && b_01 y, pc + 1, l, r, m_wr M q.1 q.2 (ix x) y)
  | false => none
def f_ast (cs : Bool) (n : Nat) (pc : Nat) (l : List (Option aV)) (M : aM) (q2 : Nat × Nat) (x : Int32) (q : Nat × Nat) (r : List aV) : Option (Bool × aS) := match Nat.beq q.1 3 with
  | true => some (i_b x (k_n n q.1) && (Nat.beq q2.1 12 && Nat.ble q2.2 24), pc + 1, l, r, cond cs (m_wr (m_wr M q.1 q.2 (ix x) (nI q2.2)) q.1 q.2 (100 + ix x) 1) (m_wr M q.1 q.2 (ix x) (nI q2.2)))
  | false => (match Nat.beq q.1 1 with
    | true => some (cs && (i_b x (k_n n q.1) && decide (q2 = (4, ix x))), pc + 1, l, r, m_wr M q.1 q.2 (100 + ix x) 1)
    | false => none)
def f_len (n L : Nat) (pc : Nat) (l : List (Option aV)) (M : aM) (q : Nat × Nat) (r : List aV) : Option (Bool × aS) := match Nat.beq q.1 50 with
  | true => some (true, pc + 1, l, .inl (nI L) :: r, M)
  | false => (match Nat.ble (k_t q.1) 3 with
    | true => some (true, pc + 1, l, .inl (nI (k_n n q.1)) :: r, M)
    | false => none)
def f_new (cs : Bool) (n a pc : Nat) (l : List (Option aV)) (st : List aV) (M : aM) : Option (Bool × aS) := match (K_T n)[M.2.2]? with
  | some q => (match Nat.beq (k_c q.1) a with
    | true => some (cs, pc + 3, l, .inr (.inl q) :: st, m_al M q.1 q.2)
    | false => none)
  | none => none
def f_nwa (cs : Bool) (n a pc : Nat) (l : List (Option aV)) (M : aM) (x : Int32) (r : List aV) : Option (Bool × aS) := match (K_T n)[M.2.2]? with
  | some q => (match Nat.beq (k_t q.1) a with
    | true => some (cs && decide (x = nI (k_n n q.1)), pc, l, .inr (.inl q) :: r, m_al M q.1 q.2)
    | false => none)
  | none => none
def st_I (cs : Bool) (n L : Nat) (xs : Nat → Int32) (i : Instr) (a b : Nat) (x : Int32) (pc : Nat) (l : List (Option aV)) (st : List aV) (M : aM) : Option (Bool × aS) := match i with
  | .iconst _ => some (true, pc + 1, l, .inl x :: st, M)
  | .bipush _ => some (true, pc + 2, l, .inl x :: st, M)
  | .sipush _ => some (true, pc + 3, l, .inl x :: st, M)
  | .ldc2_w _ => some (true, pc + 3, l, .inr (.inr x.toInt64) :: st, M)
  | .iload_n _ => (g_I l a).map (fun y => (true, pc + 1, l, .inl y :: st, M))
  | .iload _ => (g_I l a).map (fun y => (true, pc + 2, l, .inl y :: st, M))
  | .aload_n _ => (g_R l a).map (fun q => (true, pc + 1, l, .inr (.inl q) :: st, M))
  | .aload _ => (g_R l a).map (fun q => (true, pc + 2, l, .inr (.inl q) :: st, M))
  | .istore_n _ => o_1 st (fun y r => some (true, pc + 1, l.set a (some (.inl y)), r, M))
  | .istore _ => o_1 st (fun y r => some (true, pc + 2, l.set a (some (.inl y)), r, M))
  | .astore_n _ => o_R st (fun q r => some (true, pc + 1, l.set a (some (.inr (.inl q))), r, M))
  | .astore _ => o_R st (fun q r => some (true, pc + 2, l.set a (some (.inr (.inl q))), r, M))
  | .iinc _ _ => (g_I l a).map (fun y => (true, pc + 3, l.set a (some (.inl (y + x))), st, M))
  | .iadd => o_2 st (fun p q r => some (true, pc + 1, l, .inl (p + q) :: r, M))
  | .isub => o_2 st (fun p q r => some (true, pc + 1, l, .inl (p - q) :: r, M))
  | .imul => o_2 st (fun p q r => some (true, pc + 1, l, .inl (p * q) :: r, M))
  | .iand => o_2 st (fun p q r => some (true, pc + 1, l, .inl (p &&& q) :: r, M))
  | .irem => o_2 st (fun p q r => some (!(decide (q = 0)), pc + 1, l, .inl (p - p / q * q) :: r, M))
  | .i2l => o_1 st (fun y r => some (true, pc + 1, l, .inr (.inr y.toInt64) :: r, M))
  | .ladd => o_L st (fun p q r => some (true, pc + 1, l, .inr (.inr (p + q)) :: r, M))
  | .lmul => o_L st (fun p q r => some (true, pc + 1, l, .inr (.inr (p * q)) :: r, M))
  | .lcmp => o_L st (fun p q r => some (true, pc + 1, l, .inl (lg_cmp p q) :: r, M))
  | .dup => d_1 st (fun v r => some (true, pc + 1, l, v :: v :: r, M))
  | .pop => d_1 st (fun _ r => some (true, pc + 1, l, r, M))
  | .dup_x1 => d_1 st (fun v r => d_1 r (fun w t => some (true, pc + 1, l, v :: w :: v :: t, M)))
  | .dup2 => d_1 st (fun v r => d_1 r (fun w t => some (true, pc + 1, l, v :: w :: v :: w :: t, M)))
  | .ifCond c _ => o_1 st (fun y r => some (true, j_1 c y a (pc + 3), l, r, M))
  | .if_icmp c _ => o_2 st (fun p q r => some (true, j_2 c p q a (pc + 3), l, r, M))
  | .goto _ => some (true, a, l, st, M)
  | .tableswitch d lo hi offs => o_1 st (fun y r => some (s_b pc d lo hi offs y, s_w pc d lo hi offs y, l, r, M))
  | .getfield _ => o_R st (f_G cs n a b pc l M)
  | .putfield _ => f_put cs a b pc l M st
  | .iaload => o_IR st (f_ild n L xs pc l M)
  | .baload => o_IR st (f_zld n pc l M)
  | .aaload => o_IR st (f_ald cs n pc l M)
  | .iastore => o_IIR st (f_ist n pc l M)
  | .bastore => o_IIR st (f_zst n pc l M)
  | .aastore => o_RIR st (f_ast cs n pc l M)
  | .arraylength => o_R st (f_len n L pc l M)
  | .new _ => f_new cs n a pc l st M
  | .newarray _ => o_1 st (f_nwa cs n a (pc + 2) l M)
  | .anewarray _ => o_1 st (f_nwa cs n a (pc + 3) l M)
  | .invokespecial _ => (match Nat.beq a 999 with
    | true => o_R st (fun _ r => some (Nat.ble r.length 4, pc + 3, l, r, M))
    | false => none)
  | _ => none
def st_F (cs : Bool) (n L : Nat) (xs : Nat → Int32) (cd : Nat → Option aI) (S : aS) : Option (Bool × aS) := match cd S.1 with
  | none => none
  | some e => st_I cs n L xs e.1 e.2.1 e.2.2.1 e.2.2.2 S.1 S.2.1 S.2.2.1 S.2.2.2
