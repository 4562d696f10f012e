theorem nd_ix {n : Nat} {x : Int32} (hn : n ≤ 6) (h : nd n x) : x = nI (ix x) ∧ ix x < n := by
  obtain ⟨t, ht, rfl⟩ := h
  rw [ix_nI (by omega)]
  exact ⟨rfl, ht⟩
theorem hN_RR {n : Nat} {v u : mV} {a q cnt : Nat} (h : R_R n v u) (ha : a < n) (hc : ∀ j, j < cnt → (v 13 q j = u 40 0 (48 + j) ∧ nd n (v 13 q j)) ∧ (v 14 q j = u 41 0 (48 + j) ∧ s3 (v 14 q j)) ∧ v 15 q j = u 42 0 (48 + j)) : ∀ j, j ≤ cnt → R_R n (c_hN v a q j) (d_hN u a j) := by
  intro j
  induction j with
  | zero => exact fun _ => h
  | succ j ih =>
    intro hj
    obtain ⟨⟨e13, n13⟩, ⟨e14, n14⟩, e15⟩ := hc j (by omega)
    show R_R n (c_hear (c_hN v a q j) a (ix (v 13 q j)) (v 14 q j) (v 15 q j)) (d_hear (d_hN u a j) a (ix (u 40 0 (48 + j))) (u 41 0 (48 + j)) (u 42 0 (48 + j)))
    rw [← e13, ← e14, ← e15]
    exact hear_RR (ih (by omega)) ha (nd_ix h.1.2 n13).2 n14
theorem lo_eq {n : Nat} {v u : mV} {a : Nat} {e : Int32} (h : R_R n v u) (ha : a < n) : ∀ k, k ≤ n → c_lo v a e k = d_lo u a e k ∧ ∀ t, c_lo v a e k = some t → t < n ∧ u 25 0 (6 * a + t) = 1 ∧ ¬ nI t = e := by
  intro k
  induction k with
  | zero => exact fun _ => ⟨rfl, fun t h => by cases h⟩
  | succ k ih =>
    intro hk
    obtain ⟨e1, e2⟩ := ih (by omega)
    have hB := h.2.2.2.2.2.2.1 a ha k (by omega)
    unfold c_lo d_lo
    rw [← e1]
    by_cases h1 : nI k = e
    · rw [if_pos h1]
      refine ⟨?_, e2⟩
      cases hc : c_lo v a e k with
      | none =>
        dsimp only
        by_cases h2 : u 25 0 (6 * a + k) = 0
        · rw [if_pos h2]
        · rw [if_neg h2, if_pos h1]
      | some t =>
        dsimp only
        by_cases h2 : u 25 0 (6 * a + k) = 0
        · rw [if_pos h2]
        · rw [if_neg h2, if_pos h1]
    · rw [if_neg h1]
      rcases hB with ⟨b25, b11, ⟨x, hx, bx⟩, -, -⟩ | ⟨b25, b11⟩
      · have h3 : ¬ v 11 a k = -1 := by
          rw [bx]
          exact nI_m1 (by omega)
        have h2 : ¬ u 25 0 (6 * a + k) = 0 := by
          rw [b25]
          decide
        rw [if_neg h3]
        cases hc : c_lo v a e k with
        | none =>
          dsimp only
          rw [if_neg h2, if_neg h1]
          refine ⟨rfl, fun t ht => ?_⟩
          cases ht
          exact ⟨by omega, b25, h1⟩
        | some t =>
          dsimp only
          rw [if_neg h2, if_neg h1]
          obtain ⟨g1, g2, g3⟩ := e2 t hc
          have hBt := h.2.2.2.2.2.2.1 a ha t g1
          have et : v 11 a t = u 28 0 (6 * a + t) := by
            rcases hBt with ⟨-, z, -⟩ | ⟨z, -⟩
            · exact z
            · rw [g2] at z
              exact absurd z (by decide)
          rw [b11, et]
          refine ⟨rfl, fun s hs => ?_⟩
          split at hs <;> cases hs
          · exact ⟨g1, g2, g3⟩
          · exact ⟨by omega, b25, h1⟩
      · rw [if_pos b11]
        refine ⟨?_, e2⟩
        cases hc : c_lo v a e k with
        | none =>
          dsimp only
          rw [if_pos b25]
        | some t =>
          dsimp only
          rw [if_pos b25]
theorem lo_k {v w : mV} {a : Nat} {e : Int32} (h : w 11 = v 11) : ∀ k, c_lo w a e k = c_lo v a e k := by
  intro k
  induction k with
  | zero => rfl
  | succ k ih =>
    unfold c_lo
    rw [ih, h]
-- the class's side
def s_E (x : Int32) : Int32 := if x + 1 = 6 then -1 else x + 1
theorem ho_11 {v : mV} {a t q cnt a' m' : Nat} : c_ho v a (some t) q cnt 11 a' m' = if a' = a ∧ m' = t then s_E (v 11 a t) else v 11 a' m' := by
  unfold c_ho s_E
  dsimp only
  by_cases hx : v 11 a t + 1 = 6
  · rw [if_pos hx, if_pos hx]
    by_cases he : a' = a ∧ m' = t
    · obtain ⟨rfl, rfl⟩ := he
      rw [if_pos ⟨rfl, rfl⟩, u3_s]
    · rw [if_neg he, u3_n (by omega), u3_n (by omega), u3_k (k' := 11) rfl, u3_k (k' := 11) rfl, u3_k (k' := 11) rfl, u3_k (k' := 11) rfl]
  · rw [if_neg hx, if_neg hx]
    by_cases he : a' = a ∧ m' = t
    · obtain ⟨rfl, rfl⟩ := he
      rw [if_pos ⟨rfl, rfl⟩, u3_s]
    · rw [if_neg he, u3_n (by omega), u3_k (k' := 11) rfl, u3_k (k' := 11) rfl, u3_k (k' := 11) rfl, u3_k (k' := 11) rfl]
theorem ho_12 {v : mV} {a t q cnt q' j : Nat} : c_ho v a (some t) q cnt 12 q' j = if q' = q ∧ j = 6 then nI (cnt + 1) else v 12 q' j := by
  unfold c_ho
  dsimp only
  have key : ∀ w : mV, m_u3 (m_u3 (m_u3 (m_u3 w 13 q cnt (nI t)) 14 q cnt (w 9 a t)) 15 q cnt (w 10 a t)) 12 q 6 (nI (cnt + 1)) 12 q' j = if q' = q ∧ j = 6 then nI (cnt + 1) else w 12 q' j := by
    intro w
    by_cases he : q' = q ∧ j = 6
    · obtain ⟨rfl, rfl⟩ := he
      rw [u3_s, if_pos ⟨rfl, rfl⟩]
    · rw [u3_n (by omega), if_neg he, u3_k (k' := 12) rfl, u3_k (k' := 12) rfl, u3_k (k' := 12) rfl]
  split
  · rw [u3_k (k' := 12) rfl, u3_k (k' := 12) rfl, key]
  · rw [u3_k (k' := 12) rfl, key]
theorem ho_n {v : mV} {a t q cnt q' j : Nat} : c_ho v a (some t) q cnt 13 q' j = (if q' = q ∧ j = cnt then nI t else v 13 q' j) ∧ c_ho v a (some t) q cnt 14 q' j = (if q' = q ∧ j = cnt then v 9 a t else v 14 q' j) ∧ c_ho v a (some t) q cnt 15 q' j = (if q' = q ∧ j = cnt then v 10 a t else v 15 q' j) := by
  unfold c_ho
  dsimp only
  by_cases hx : v 11 a t + 1 = 6
  · rw [if_pos hx]
    by_cases he : q' = q ∧ j = cnt
    · obtain ⟨rfl, rfl⟩ := he
      rw [if_pos ⟨rfl, rfl⟩, if_pos ⟨rfl, rfl⟩, if_pos ⟨rfl, rfl⟩]
      refine ⟨?_, ?_, ?_⟩
      · rw [u3_k (k' := 13) rfl, u3_k (k' := 13) rfl, u3_k (k' := 13) rfl, u3_k (k' := 13) rfl, u3_k (k' := 13) rfl, u3_s]
      · rw [u3_k (k' := 14) rfl, u3_k (k' := 14) rfl, u3_k (k' := 14) rfl, u3_k (k' := 14) rfl, u3_s]
      · rw [u3_k (k' := 15) rfl, u3_k (k' := 15) rfl, u3_k (k' := 15) rfl, u3_s]
    · rw [if_neg he, if_neg he, if_neg he]
      refine ⟨?_, ?_, ?_⟩
      · rw [u3_k (k' := 13) rfl, u3_k (k' := 13) rfl, u3_k (k' := 13) rfl, u3_k (k' := 13) rfl, u3_k (k' := 13) rfl, u3_n (by omega)]
      · rw [u3_k (k' := 14) rfl, u3_k (k' := 14) rfl, u3_k (k' := 14) rfl, u3_k (k' := 14) rfl, u3_n (by omega), u3_k (k' := 14) rfl]
      · rw [u3_k (k' := 15) rfl, u3_k (k' := 15) rfl, u3_k (k' := 15) rfl, u3_n (by omega), u3_k (k' := 15) rfl, u3_k (k' := 15) rfl]
  · rw [if_neg hx]
    by_cases he : q' = q ∧ j = cnt
    · obtain ⟨rfl, rfl⟩ := he
      rw [if_pos ⟨rfl, rfl⟩, if_pos ⟨rfl, rfl⟩, if_pos ⟨rfl, rfl⟩]
      refine ⟨?_, ?_, ?_⟩
      · rw [u3_k (k' := 13) rfl, u3_k (k' := 13) rfl, u3_k (k' := 13) rfl, u3_k (k' := 13) rfl, u3_s]
      · rw [u3_k (k' := 14) rfl, u3_k (k' := 14) rfl, u3_k (k' := 14) rfl, u3_s]
      · rw [u3_k (k' := 15) rfl, u3_k (k' := 15) rfl, u3_s]
    · rw [if_neg he, if_neg he, if_neg he]
      refine ⟨?_, ?_, ?_⟩
      · rw [u3_k (k' := 13) rfl, u3_k (k' := 13) rfl, u3_k (k' := 13) rfl, u3_k (k' := 13) rfl, u3_n (by omega)]
      · rw [u3_k (k' := 14) rfl, u3_k (k' := 14) rfl, u3_k (k' := 14) rfl, u3_n (by omega), u3_k (k' := 14) rfl]
      · rw [u3_k (k' := 15) rfl, u3_k (k' := 15) rfl, u3_n (by omega), u3_k (k' := 15) rfl, u3_k (k' := 15) rfl]
def n_c (f g : Option Nat) : Nat := match f with
  | none => 0
  | some _ => match g with
    | none => 1
    | some _ => 2
def two (n : Nat) (v : mV) (a : Nat) : Option Nat := match c_lo v a (-1) n with
  | none => none
  | some f => c_lo v a (nI f) n
/-- what loading does -/
theorem load_V {n : Nat} {w : mV} {a q : Nat} {f g : Option Nat} (hf : c_lo w a (-1) n = f) (hg : two n w a = g) (hd : ∀ s t, f = some s → g = some t → s ≠ t) :
    (∀ a' m', c_load n w a q 11 a' m' = if a' = a ∧ (some m' = f ∨ some m' = g) then s_E (w 11 a' m') else w 11 a' m') ∧
    (∀ q' j, c_load n w a q 12 q' j = if q' = q ∧ j = 6 then nI (n_c f g) else w 12 q' j) ∧
    (∀ q' j, ¬ q' = q → c_load n w a q 13 q' j = w 13 q' j ∧ c_load n w a q 14 q' j = w 14 q' j ∧ c_load n w a q 15 q' j = w 15 q' j) ∧
    (∀ t, f = some t → c_load n w a q 13 q 0 = nI t ∧ c_load n w a q 14 q 0 = w 9 a t ∧ c_load n w a q 15 q 0 = w 10 a t) ∧
    (∀ s t, f = some s → g = some t → c_load n w a q 13 q 1 = nI t ∧ c_load n w a q 14 q 1 = w 9 a t ∧ c_load n w a q 15 q 1 = w 10 a t) := by
  have h0 : ∀ e k, c_lo (m_u3 w 12 q 6 0) a e k = c_lo w a e k := fun e k => lo_k (u3_k (k' := 11) rfl) k
  have e12 : ∀ q' j, m_u3 w 12 q 6 0 12 q' j = if q' = q ∧ j = 6 then nI 0 else w 12 q' j := by
    intro q' j
    by_cases he : q' = q ∧ j = 6
    · obtain ⟨rfl, rfl⟩ := he
      rw [u3_s, if_pos ⟨rfl, rfl⟩]
      rfl
    · rw [u3_n (by omega), if_neg he]
  have ek : ∀ k, Nat.beq k 12 = false → m_u3 w 12 q 6 0 k = w k := fun k hk => u3_k hk
  unfold two at hg
  unfold c_load
  rw [h0, hf]
  rw [hf] at hg
  cases f with
  | none =>
    dsimp only at hg ⊢
    subst hg
    refine ⟨fun a' m' => ?_, fun q' j => ?_, fun q' j _ => ⟨?_, ?_, ?_⟩, (fun t h => by cases h), (fun s t h => by cases h)⟩
    · rw [if_neg (by rintro ⟨-, z | z⟩ <;> cases z), ek 11 rfl]
    · rw [e12]; rfl
    · rw [ek 13 rfl]
    · rw [ek 14 rfl]
    · rw [ek 15 rfl]
  | some f =>
    dsimp only at hg ⊢
    rw [h0, hg]
    cases g with
    | none =>
      show (∀ a' m', c_ho (m_u3 w 12 q 6 0) a (some f) q 0 11 a' m' = _) ∧ (∀ q' j, c_ho (m_u3 w 12 q 6 0) a (some f) q 0 12 q' j = _) ∧ (∀ q' j, ¬ q' = q → c_ho (m_u3 w 12 q 6 0) a (some f) q 0 13 q' j = _ ∧ c_ho (m_u3 w 12 q 6 0) a (some f) q 0 14 q' j = _ ∧ c_ho (m_u3 w 12 q 6 0) a (some f) q 0 15 q' j = _) ∧ (∀ t, some f = some t → c_ho (m_u3 w 12 q 6 0) a (some f) q 0 13 q 0 = _ ∧ c_ho (m_u3 w 12 q 6 0) a (some f) q 0 14 q 0 = _ ∧ c_ho (m_u3 w 12 q 6 0) a (some f) q 0 15 q 0 = _) ∧ _
      refine ⟨fun a' m' => ?_, fun q' j => ?_, fun q' j hq => ⟨?_, ?_, ?_⟩, fun t ht => ?_, fun s t _ h => by cases h⟩
      · rw [ho_11, ek 11 rfl]
        by_cases he : a' = a ∧ m' = f
        · obtain ⟨rfl, rfl⟩ := he
          rw [if_pos ⟨rfl, rfl⟩, if_pos ⟨rfl, Or.inl rfl⟩]
        · rw [if_neg he, if_neg]
          rintro ⟨z1, z2 | z2⟩
          · cases z2
            exact he ⟨z1, rfl⟩
          · cases z2
      · rw [ho_12, e12]
        by_cases he : q' = q ∧ j = 6
        · rw [if_pos he, if_pos he]; rfl
        · rw [if_neg he, if_neg he, if_neg he]
      · rw [ho_n.1, if_neg (fun z => hq z.1), ek 13 rfl]
      · rw [ho_n.2.1, if_neg (fun z => hq z.1), ek 14 rfl]
      · rw [ho_n.2.2, if_neg (fun z => hq z.1), ek 15 rfl]
      · cases ht
        rw [ho_n.1, ho_n.2.1, ho_n.2.2, if_pos ⟨rfl, rfl⟩, if_pos ⟨rfl, rfl⟩, if_pos ⟨rfl, rfl⟩, ek 9 rfl, ek 10 rfl]
        exact ⟨rfl, rfl, rfl⟩
    | some g =>
      have hfg := hd f g rfl rfl
      refine ⟨fun a' m' => ?_, fun q' j => ?_, fun q' j hq => ⟨?_, ?_, ?_⟩, fun t ht => ?_, fun s t hs ht => ?_⟩
      · rw [ho_11, ho_11, ho_11, ek 11 rfl]
        by_cases h2 : a' = a ∧ m' = g
        · obtain ⟨rfl, rfl⟩ := h2
          rw [if_pos ⟨rfl, rfl⟩, if_neg (fun z => hfg z.2.symm), if_pos ⟨rfl, Or.inr rfl⟩]
        · rw [if_neg h2]
          by_cases h1 : a' = a ∧ m' = f
          · obtain ⟨rfl, rfl⟩ := h1
            rw [if_pos ⟨rfl, rfl⟩, if_pos ⟨rfl, Or.inl rfl⟩]
          · rw [if_neg h1, if_neg]
            rintro ⟨z1, z2 | z2⟩
            · cases z2
              exact h1 ⟨z1, rfl⟩
            · cases z2
              exact h2 ⟨z1, rfl⟩
      · rw [ho_12, ho_12, e12]
        by_cases he : q' = q ∧ j = 6
        · rw [if_pos he, if_pos he]; rfl
        · rw [if_neg he, if_neg he, if_neg he, if_neg he]
      · rw [ho_n.1, if_neg (fun z => hq z.1), ho_n.1, if_neg (fun z => hq z.1), ek 13 rfl]
      · rw [ho_n.2.1, if_neg (fun z => hq z.1), ho_n.2.1, if_neg (fun z => hq z.1), ek 14 rfl]
      · rw [ho_n.2.2, if_neg (fun z => hq z.1), ho_n.2.2, if_neg (fun z => hq z.1), ek 15 rfl]
      · cases ht
        rw [ho_n.1, ho_n.2.1, ho_n.2.2, if_neg (by omega), if_neg (by omega), if_neg (by omega), ho_n.1, ho_n.2.1, ho_n.2.2, if_pos ⟨rfl, rfl⟩, if_pos ⟨rfl, rfl⟩, if_pos ⟨rfl, rfl⟩, ek 9 rfl, ek 10 rfl]
        exact ⟨rfl, rfl, rfl⟩
      · cases hs
        cases ht
        rw [ho_n.1, ho_n.2.1, ho_n.2.2, if_pos ⟨rfl, rfl⟩, if_pos ⟨rfl, rfl⟩, if_pos ⟨rfl, rfl⟩, ho_k (k := 9) rfl, ho_k (k := 10) rfl, ek 9 rfl, ek 10 rfl]
        exact ⟨rfl, rfl, rfl⟩
