/-! THE CONSTRUCTORS, reckoned out for n = 2 .. 6 -/
def M_0 : aM := (fun _ _ _ => 0, fun _ _ _ => 0, 0)
/-- straight code that leaves the locals alone -/
def n_sv (i : Instr) : Bool := match i with
  | .aload_n _ => true
  | .bipush _ => true
  | .newarray _ => true
  | .putfield _ => true
  | .invokespecial _ => true
  | _ => false
def run_q (n : Nat) (cd : Nat → Option aI) (stop : Nat) : Nat → aS → Option aS
  | 0, _ => none
  | k + 1, S => match Nat.beq S.1 stop with
    | true => some S
    | false => (match cd S.1 with
      | some e => (match n_sv e.1 with
        | true => (match st_I true n 0 (fun _ => 0) e.1 e.2.1 e.2.2.1 e.2.2.2 S.1 S.2.1 S.2.2.1 S.2.2.2 with
          | some (bl, S1) => (match bl with
            | true => run_q n cd stop k S1
            | false => none)
          | none => none)
        | false => none)
      | none => none)
theorem st_q {n L : Nat} {xs : Nat → Int32} {i : Instr} {a b : Nat} {x : Int32} {pc : Nat} {l l' : List (Option aV)} {st : List aV} {M : aM} {S : aS} (hl : l_le l l') (hs : n_sv i = true) (h : st_I true n 0 (fun _ => 0) i a b x pc l st M = some (true, S)) : S.2.1 = l ∧ st_I true n L xs i a b x pc l' st M = some (true, S.1, l', S.2.2) := by
  cases i
  case bipush t => cases h; exact ⟨rfl, rfl⟩
  case aload_n t =>
    obtain ⟨y, hy, e⟩ := Option.map_eq_some_iff.mp h
    cases e
    exact ⟨rfl, Option.map_eq_some_iff.mpr ⟨y, l_le_R hl hy, rfl⟩⟩
  case putfield t =>
    obtain ⟨e1, e2⟩ := fput_l h l'
    dsimp only at e1 e2
    exact ⟨e1, e2⟩
  case newarray t =>
    obtain ⟨y, r, rfl, h2⟩ := o_1_inv h
    obtain ⟨e1, e2⟩ := fnwa_l h2 l'
    dsimp only at e1 e2
    exact ⟨e1, e2⟩
  case invokespecial t =>
    have h' : (match Nat.beq a 999 with
      | true => o_R st (fun _ r => some (Nat.ble r.length 4, pc + 3, l, r, M))
      | false => none) = some (true, S) := h
    split at h'
    · rename_i e1
      obtain ⟨q, r, rfl, h2⟩ := o_R_inv h'
      obtain ⟨h1, rfl⟩ := Prod.mk.inj (Option.some.inj h2)
      refine ⟨rfl, ?_⟩
      show (match Nat.beq a 999 with
        | true => o_R (Sum.inr (Sum.inl q) :: r) (fun _ r => some (Nat.ble r.length 4, pc + 3, l', r, M))
        | false => none) = _
      rw [e1]
      show some (Nat.ble r.length 4, _) = _
      rw [h1]
    · cases h'
  all_goals cases hs
theorem run_q_ok {n L : Nat} {xs : Nat → Int32} {C : Nat → List aV → aM → Option aV → aM → Prop} {cd : Nat → Option aI} {stop : Nat} {l' : List (Option aV)} : ∀ (k : Nat) (S S1 : aS), run_q n cd stop k S = some S1 → l_le S.2.1 l' → G_o true n L xs C cd (fun S' => S' = (S1.1, l', S1.2.2)) (S.1, l', S.2.2) := by
  intro k
  induction k with
  | zero => intro S S1 h; cases h
  | succ k ih =>
    intro S S1 h hl
    unfold run_q at h
    split at h
    · cases h
      exact G_end rfl
    · split at h
      · rename_i e hen
        split at h
        · rename_i hsv
          split at h
          · rename_i bl S2 hst
            split at h
            · obtain ⟨h1, h2⟩ := st_q (L := L) (xs := xs) hl hsv hst
              refine G_step (S1 := (S2.1, l', S2.2.2)) (bl := true) ?_ rfl (ih S2 S1 h (by rw [h1]; exact hl))
              unfold st_F
              dsimp only
              rw [hen]
              exact h2
            · cases h
          · cases h
        · cases h
      · cases h
def rf_0 : aV := .inr (.inl (0, 0))
def rf_2 : aV := .inr (.inl (20, 0))
def r_1 (n : Nat) : Option aS := run_p n (ev_g n 6) (m_C 0) 80 2000 (21, [some rf_0, none, none], [.inl (nI n), rf_0], m_al M_0 0 0)
def r_2 (n : Nat) (M : aM) : Option aS := run_q n (m_C 49) 181 2000 (0, [some rf_2, none, none], [], m_al M 20 0)
def r_3 (n : Nat) (M : aM) : Option aS := run_p n (ev_g n 6) (m_C 49) 228 2000 (197, [some rf_2, none, none], [.inl (nI n), rf_2], M)
/-- all references of a cell are set -/
def f_ok (n : Nat) (M : aM) (q : Nat × Nat) : Bool := (List.range (k_f q.1 q.2).length).all (fun s => ((k_f q.1 q.2).getD s none).isNone || !(decide (m_rd M q.1 q.2 (100 + s) = 0))) && (!(Nat.beq (k_c q.1) 9) || (Nat.ble (k_t q.1) 1 || (List.range (k_n n q.1)).all (fun j => !(decide (m_rd M q.1 q.2 (100 + j) = 0)))))
/-- the ints of the first state -/
def I_0 (n : Nat) (v u : mV) : Prop := (v 0 0 0 = nI n ∧ u 20 0 0 = nI n ∧ v 2 0 1 = 0 ∧ u 20 0 13 = 0) ∧ (∀ a, a < n → (v 4 a 0 = nI a ∧ v 4 a 1 = nI n) ∧ (v 4 a 6 = 1 ∧ u 21 0 a = 0) ∧ (v 4 a 7 = nI a ∧ u 29 0 a = nI a) ∧ (v 4 a 8 = 0 ∧ u 30 0 a = 0) ∧ (v 4 a 9 = -1 ∧ u 31 0 a = -1) ∧ (v 4 a 10 = 0 ∧ u 32 0 a = 0)) ∧ (∀ a, a < n → ∀ m, m < n → (v 5 a m = 0 ∧ u 22 0 (6 * a + m) = 0) ∧ (v 6 a m = 0 ∧ u 23 0 (6 * a + m) = 0) ∧ (v 7 a m = 0 ∧ u 24 0 (6 * a + m) = 0) ∧ (v 11 a m = -1 ∧ u 25 0 (6 * a + m) = 0)) ∧ ∀ j, j < 25 → v 3 0 j = nI j
def I_0d (n : Nat) (v u : mV) : Decidable (I_0 n v u) := by
  unfold I_0
  exact inferInstance
def b_3 (n : Nat) (M : aM) : Bool := Nat.beq M.2.2 (K_T n).length && ((K_T n).all (f_ok n M) && @decide (I_0 n M.1 M.2.1) (I_0d n M.1 M.2.1))
def b_2 (n : Nat) (S : aS) : Bool := (Nat.beq S.1 181 && decide (S.2.2.1 = [rf_2])) && (match r_3 n S.2.2.2 with
  | some S3 => Nat.beq S3.1 228 && (S3.2.2.1.isEmpty && b_3 n S3.2.2.2)
  | none => false)
def b_1 (n : Nat) : Bool := match r_1 n with
  | some S1 => Nat.beq S1.1 80 && (S1.2.2.1.isEmpty && (decide ((K_T n)[S1.2.2.2.2.2]? = some (20, 0)) && (match r_2 n S1.2.2.2 with
    | some S2 => b_2 n S2
    | none => false)))
  | none => false
theorem b_ok2 : b_1 2 = true := by decide +kernel
theorem b_ok3 : b_1 3 = true := by decide +kernel
theorem b_ok4 : b_1 4 = true := by decide +kernel
theorem b_ok5 : b_1 5 = true := by decide +kernel
theorem b_ok6 : b_1 6 = true := by decide +kernel
theorem b_ok : ∀ n, 2 ≤ n → n ≤ 6 → b_1 n = true
  | 0, h, _ => absurd h (by omega)
  | 1, h, _ => absurd h (by omega)
  | 2, _, _ => b_ok2
  | 3, _, _ => b_ok3
  | 4, _, _ => b_ok4
  | 5, _, _ => b_ok5
  | 6, _, _ => b_ok6
  | _ + 7, _, h => absurd h (by omega)
