-- the reference's side
theorem sp_p {u : mV} {a t a' m' : Nat} (ht : t < 6) (hm : m' < 6) : d_sp u a (some t) 28 0 (6 * a' + m') = (if a' = a ∧ m' = t then u 28 0 (6 * a' + m') + 1 else u 28 0 (6 * a' + m')) ∧ d_sp u a (some t) 25 0 (6 * a' + m') = (if a' = a ∧ m' = t then (if 6 ≤ u 28 0 (6 * a' + m') + 1 then 0 else 1) else u 25 0 (6 * a' + m')) := by
  unfold d_sp
  dsimp only
  by_cases he : a' = a ∧ m' = t
  · obtain ⟨rfl, rfl⟩ := he
    rw [if_pos (⟨rfl, rfl⟩ : a' = a' ∧ m' = m'), if_pos (⟨rfl, rfl⟩ : a' = a' ∧ m' = m')]
    by_cases hx : 6 ≤ u 28 0 (6 * a' + m') + 1
    · rw [if_pos hx, if_pos hx]
      exact ⟨by rw [u3_k (k' := 28) rfl, u3_s], u3_s⟩
    · rw [if_neg hx, if_neg hx]
      exact ⟨by rw [u3_k (k' := 28) rfl, u3_s], u3_s⟩
  · rw [if_neg he, if_neg he]
    have hp : ¬ 6 * a' + m' = 6 * a + t := by omega
    by_cases hx : 6 ≤ u 28 0 (6 * a + t) + 1
    · rw [if_pos hx]
      exact ⟨by rw [u3_k (k' := 28) rfl, u3_n (by omega)], by rw [u3_n (by omega), u3_k (k' := 25) rfl]⟩
    · rw [if_neg hx]
      exact ⟨by rw [u3_k (k' := 28) rfl, u3_n (by omega)], by rw [u3_n (by omega), u3_k (k' := 25) rfl]⟩
theorem sp_2 {u : mV} {a : Nat} {f g : Option Nat} {a' m' : Nat} (hf : ∀ t, f = some t → t < 6) (hg : ∀ t, g = some t → t < 6) (hd : ∀ s t, f = some s → g = some t → s ≠ t) (hm : m' < 6) : d_sp (d_sp u a f) a g 28 0 (6 * a' + m') = (if a' = a ∧ (some m' = f ∨ some m' = g) then u 28 0 (6 * a' + m') + 1 else u 28 0 (6 * a' + m')) ∧ d_sp (d_sp u a f) a g 25 0 (6 * a' + m') = (if a' = a ∧ (some m' = f ∨ some m' = g) then (if 6 ≤ u 28 0 (6 * a' + m') + 1 then 0 else 1) else u 25 0 (6 * a' + m')) := by
  have hnone : ∀ w : mV, d_sp w a none = w := fun w => rfl
  cases f with
  | none =>
    rw [hnone]
    cases g with
    | none =>
      rw [hnone, if_neg (by rintro ⟨-, z | z⟩ <;> cases z), if_neg (by rintro ⟨-, z | z⟩ <;> cases z)]
      exact ⟨rfl, rfl⟩
    | some t =>
      have e : (a' = a ∧ (some m' = none ∨ some m' = some t)) ↔ (a' = a ∧ m' = t) := by simp
      rw [(sp_p (hg t rfl) hm).1, (sp_p (hg t rfl) hm).2]
      simp only [e]
      exact ⟨trivial, trivial⟩
  | some s =>
    cases g with
    | none =>
      have e : (a' = a ∧ (some m' = some s ∨ some m' = none)) ↔ (a' = a ∧ m' = s) := by simp
      rw [hnone, (sp_p (hf s rfl) hm).1, (sp_p (hf s rfl) hm).2]
      simp only [e]
      exact ⟨trivial, trivial⟩
    | some t =>
      have hst := hd s t rfl rfl
      rw [(sp_p (hg t rfl) hm).1, (sp_p (hg t rfl) hm).2, (sp_p (hf s rfl) hm).1, (sp_p (hf s rfl) hm).2]
      by_cases h1 : a' = a ∧ m' = s
      · have h2 : ¬ (a' = a ∧ m' = t) := by omega
        have h3 : a' = a ∧ (some m' = some s ∨ some m' = some t) := ⟨h1.1, Or.inl (by rw [h1.2])⟩
        rw [if_neg h2, if_neg h2, if_pos h1, if_pos h1, if_pos h3, if_pos h3]
        exact ⟨rfl, rfl⟩
      · by_cases h2 : a' = a ∧ m' = t
        · have h3 : a' = a ∧ (some m' = some s ∨ some m' = some t) := ⟨h2.1, Or.inr (by rw [h2.2])⟩
          rw [if_pos h2, if_pos h2, if_neg h1, if_pos h3, if_pos h3]
          exact ⟨rfl, rfl⟩
        · have h3 : ¬ (a' = a ∧ (some m' = some s ∨ some m' = some t)) := by
            rintro ⟨z1, z2 | z2⟩
            · cases z2
              exact h1 ⟨z1, rfl⟩
            · cases z2
              exact h2 ⟨z1, rfl⟩
          rw [if_neg h2, if_neg h2, if_neg h1, if_neg h1, if_neg h3, if_neg h3]
          exact ⟨rfl, rfl⟩
theorem f7_k {u : mV} {a r : Nat} {kd to og tg pn : Int32} {k : Nat} (h : ¬ (33 ≤ k ∧ k ≤ 39)) : d_f7 u a kd to og tg pn r k = u k := by
  have hb : ∀ K, 33 ≤ K → K ≤ 39 → Nat.beq k K = false := by
    intro K h1 h2
    cases e : Nat.beq k K with
    | false => rfl
    | true => exact absurd (Nat.eq_of_beq_eq_true e) (by omega)
  unfold d_f7
  rw [u3_k (hb 39 (by omega) (by omega)), u3_k (hb 38 (by omega) (by omega)), u3_k (hb 37 (by omega) (by omega)), u3_k (hb 36 (by omega) (by omega)), u3_k (hb 35 (by omega) (by omega)), u3_k (hb 34 (by omega) (by omega)), u3_k (hb 33 (by omega) (by omega))]
theorem f7_j {u : mV} {a r : Nat} {kd to og tg pn : Int32} {k j : Nat} (h : ¬ j = r) : d_f7 u a kd to og tg pn r k 0 j = u k 0 j := by
  unfold d_f7
  rw [u3_n (by omega), u3_n (by omega), u3_n (by omega), u3_n (by omega), u3_n (by omega), u3_n (by omega), u3_n (by omega)]
theorem f7_r {u : mV} {a r : Nat} {kd to og tg pn : Int32} : d_f7 u a kd to og tg pn r 33 0 r = kd ∧ d_f7 u a kd to og tg pn r 34 0 r = nI a ∧ d_f7 u a kd to og tg pn r 35 0 r = to ∧ d_f7 u a kd to og tg pn r 36 0 r = og ∧ d_f7 u a kd to og tg pn r 37 0 r = tg ∧ d_f7 u a kd to og tg pn r 38 0 r = pn ∧ d_f7 u a kd to og tg pn r 39 0 r = 0 := by
  unfold d_f7
  refine ⟨?_, ?_, ?_, ?_, ?_, ?_, u3_s⟩
  · rw [u3_k (k' := 33) rfl, u3_k (k' := 33) rfl, u3_k (k' := 33) rfl, u3_k (k' := 33) rfl, u3_k (k' := 33) rfl, u3_k (k' := 33) rfl, u3_s]
  · rw [u3_k (k' := 34) rfl, u3_k (k' := 34) rfl, u3_k (k' := 34) rfl, u3_k (k' := 34) rfl, u3_k (k' := 34) rfl, u3_s]
  · rw [u3_k (k' := 35) rfl, u3_k (k' := 35) rfl, u3_k (k' := 35) rfl, u3_k (k' := 35) rfl, u3_s]
  · rw [u3_k (k' := 36) rfl, u3_k (k' := 36) rfl, u3_k (k' := 36) rfl, u3_s]
  · rw [u3_k (k' := 37) rfl, u3_k (k' := 37) rfl, u3_s]
  · rw [u3_k (k' := 38) rfl, u3_s]
theorem car_j {u : mV} {a m r cnt k j : Nat} (h39 : ¬ (k = 39 ∧ j = r)) (h40 : ¬ (40 ≤ k ∧ k ≤ 42 ∧ j = 2 * r + cnt)) : d_car u a m r cnt k 0 j = u k 0 j := by
  unfold d_car
  rw [u3_n (by omega), u3_n (by omega), u3_n (by omega), u3_n (by omega)]
theorem car_r {u : mV} {a m r cnt : Nat} : d_car u a m r cnt 39 0 r = nI (cnt + 1) ∧ d_car u a m r cnt 40 0 (2 * r + cnt) = nI m ∧ d_car u a m r cnt 41 0 (2 * r + cnt) = u 26 0 (6 * a + m) ∧ d_car u a m r cnt 42 0 (2 * r + cnt) = u 27 0 (6 * a + m) := by
  unfold d_car
  refine ⟨u3_s, ?_, ?_, ?_⟩
  · rw [u3_k (k' := 40) rfl, u3_k (k' := 40) rfl, u3_k (k' := 40) rfl, u3_s]
  · rw [u3_k (k' := 41) rfl, u3_k (k' := 41) rfl, u3_s]
  · rw [u3_k (k' := 42) rfl, u3_s]
theorem c2_j {u : mV} {a r : Nat} {f g : Option Nat} {k j : Nat} (h39 : ¬ (k = 39 ∧ j = r)) (h40 : ¬ (40 ≤ k ∧ k ≤ 42 ∧ (j = 2 * r ∨ j = 2 * r + 1))) : d_c2 u a r f g k 0 j = u k 0 j := by
  cases f with
  | none => rfl
  | some f =>
    cases g with
    | none => exact car_j h39 (by omega)
    | some g => exact (car_j h39 (by omega)).trans (car_j h39 (by omega))
theorem c2_r {u : mV} {a r : Nat} {f g : Option Nat} (h0 : u 39 0 r = 0) : d_c2 u a r f g 39 0 r = nI (n_c f g) ∧ (∀ t, f = some t → d_c2 u a r f g 40 0 (2 * r + 0) = nI t ∧ d_c2 u a r f g 41 0 (2 * r + 0) = u 26 0 (6 * a + t) ∧ d_c2 u a r f g 42 0 (2 * r + 0) = u 27 0 (6 * a + t)) ∧ ∀ s t, f = some s → g = some t → d_c2 u a r f g 40 0 (2 * r + 1) = nI t ∧ d_c2 u a r f g 41 0 (2 * r + 1) = u 26 0 (6 * a + t) ∧ d_c2 u a r f g 42 0 (2 * r + 1) = u 27 0 (6 * a + t) := by
  cases f with
  | none => exact ⟨h0, (fun t h => by cases h), (fun s t h => by cases h)⟩
  | some f =>
    cases g with
    | none =>
      refine ⟨car_r.1, fun t h => ?_, (fun s t _ h => by cases h)⟩
      cases h
      exact car_r.2
    | some g =>
      refine ⟨car_r.1, fun t h => ?_, fun s t hs ht => ?_⟩
      · cases h
        show d_car (d_car u a f r 0) a g r 1 40 0 (2 * r + 0) = _ ∧ d_car (d_car u a f r 0) a g r 1 41 0 (2 * r + 0) = _ ∧ d_car (d_car u a f r 0) a g r 1 42 0 (2 * r + 0) = _
        rw [car_j (u := d_car u a f r 0) (k := 40) (by omega) (by omega), car_j (u := d_car u a f r 0) (k := 41) (by omega) (by omega), car_j (u := d_car u a f r 0) (k := 42) (by omega) (by omega)]
        exact car_r.2
      · cases hs
        cases ht
        show d_car (d_car u a f r 0) a g r 1 40 0 (2 * r + 1) = _ ∧ d_car (d_car u a f r 0) a g r 1 41 0 (2 * r + 1) = _ ∧ d_car (d_car u a f r 0) a g r 1 42 0 (2 * r + 1) = _
        rw [car_r.2.1, car_r.2.2.1, car_r.2.2.2, car_k (k := 26) rfl, car_k (k := 27) rfl]
        exact ⟨rfl, rfl, rfl⟩
theorem se_nI {x : Nat} (hx : x < 6) : (x = 5 → s_E (nI x) = -1 ∧ (6 : Int32) ≤ nI x + 1) ∧ (¬ x = 5 → s_E (nI x) = nI (x + 1) ∧ ¬ (6 : Int32) ≤ nI x + 1) := by
  have : ∀ x, x < 6 → (x = 5 → s_E (nI x) = -1 ∧ (6 : Int32) ≤ nI x + 1) ∧ (¬ x = 5 → s_E (nI x) = nI (x + 1) ∧ ¬ (6 : Int32) ≤ nI x + 1) := by decide +kernel
  exact this x hx
theorem pb_sp {v u v' u' : mV} {a m : Nat} (h : P_B v u a m) (h25 : u 25 0 (6 * a + m) = 1) (e9 : v' 9 a m = v 9 a m) (e10 : v' 10 a m = v 10 a m) (e11 : v' 11 a m = s_E (v 11 a m)) (e25 : u' 25 0 (6 * a + m) = if 6 ≤ u 28 0 (6 * a + m) + 1 then 0 else 1) (e26 : u' 26 0 (6 * a + m) = u 26 0 (6 * a + m)) (e27 : u' 27 0 (6 * a + m) = u 27 0 (6 * a + m)) (e28 : u' 28 0 (6 * a + m) = u 28 0 (6 * a + m) + 1) : P_B v' u' a m := by
  rcases h with ⟨-, b11, ⟨x, hx, bx⟩, b9, b10⟩ | ⟨z, -⟩
  · unfold P_B
    rw [e9, e10, e11, e25, e26, e27, e28, ← b11, bx]
    obtain ⟨k1, k2⟩ := se_nI hx
    by_cases h5 : x = 5
    · obtain ⟨g1, g2⟩ := k1 h5
      rw [g1, if_pos g2]
      exact Or.inr ⟨rfl, rfl⟩
    · obtain ⟨g1, g2⟩ := k2 h5
      rw [g1, if_neg g2]
      exact Or.inl ⟨rfl, nI_succ x, ⟨x + 1, by omega, rfl⟩, b9, b10⟩
  · rw [h25] at z
    exact absurd z (by decide)
theorem send_RR {n : Nat} {v u : mV} {a : Nat} {kd to og tg pn : Int32} (h : R_R n v u) (ha : a < n) (hkd : kd = 1 ∨ kd = 2 ∨ kd = 3) (hto : nd n to) (hog : nd n og) (htg : nd n tg) : R_R n (c_send n v a kd to og tg pn (gg v (zz v)) (zz v)) (d_send n u a kd to og tg pn (zz v)) := by
  obtain ⟨hn, hf, hg, hN, hV, hS, hB, hW⟩ := id h
  obtain ⟨⟨hz, hz24, hzu⟩, hgg, hinj, hM⟩ := hW
  have hlo := lo_eq (e := -1) h ha n (Nat.le_refl _)
  have htwo : two n v a = d_two n u a := by
    unfold two d_two
    rw [← hlo.1]
    cases hc : c_lo v a (-1) n with
    | none => rfl
    | some s => exact (lo_eq (e := nI s) h ha n (Nat.le_refl _)).1
  have hfk : ∀ t, c_lo v a (-1) n = some t → t < n ∧ u 25 0 (6 * a + t) = 1 := fun t ht => ⟨(hlo.2 t ht).1, (hlo.2 t ht).2.1⟩
  have hgk : ∀ s t, c_lo v a (-1) n = some s → two n v a = some t → (t < n ∧ u 25 0 (6 * a + t) = 1) ∧ s ≠ t := by
    intro s t hs ht
    unfold two at ht
    rw [hs] at ht
    have := (lo_eq (e := nI s) h ha n (Nat.le_refl _)).2 t ht
    exact ⟨⟨this.1, this.2.1⟩, fun z => this.2.2 (by rw [z])⟩
  have hgn : ∀ t, two n v a = some t → ∃ s, c_lo v a (-1) n = some s := by
    intro t ht
    unfold two at ht
    cases hc : c_lo v a (-1) n with
    | none => rw [hc] at ht; cases ht
    | some s => exact ⟨s, rfl⟩
  generalize hF : c_lo v a (-1) n = f at *
  generalize hG : two n v a = g at *
  have hkk : ∀ m', (some m' = f ∨ some m' = g) → m' < n ∧ u 25 0 (6 * a + m') = 1 := by
    rintro m' (z | z)
    · exact hfk m' z.symm
    · obtain ⟨s, hs⟩ := hgn m' z.symm
      exact (hgk s m' hs z.symm).1
  have hf6 : ∀ t, f = some t → t < 6 := fun t ht => by have := (hfk t ht).1; omega
  have hg6 : ∀ t, g = some t → t < 6 := fun t ht => by
    obtain ⟨s, hs⟩ := hgn t ht
    have := (hgk s t hs ht).1.1
    omega
  have hdd : ∀ s t, f = some s → g = some t → s ≠ t := fun s t hs ht => (hgk s t hs ht).2
  generalize hz' : zz v = z at *
  generalize hq' : gg v z = q at *
  -- the class's state before loading
  have e11 : m_u3 (m_u3 (m_u3 (m_u3 (m_u3 (m_u3 (c_pf v z) 12 q 0 kd) 12 q 1 (nI a)) 12 q 2 to) 12 q 3 og) 12 q 4 tg) 12 q 5 pn 11 = v 11 := by
    rw [u3_k (k' := 11) rfl, u3_k (k' := 11) rfl, u3_k (k' := 11) rfl, u3_k (k' := 11) rfl, u3_k (k' := 11) rfl, u3_k (k' := 11) rfl, pf_k rfl]
  have ek : ∀ K, Nat.beq K 12 = false → Nat.beq K 2 = false → m_u3 (m_u3 (m_u3 (m_u3 (m_u3 (m_u3 (c_pf v z) 12 q 0 kd) 12 q 1 (nI a)) 12 q 2 to) 12 q 3 og) 12 q 4 tg) 12 q 5 pn K = v K := by
    intro K h1 h2
    rw [u3_k h1, u3_k h1, u3_k h1, u3_k h1, u3_k h1, u3_k h1, pf_k h2]
  have e12o : ∀ q' j, ¬ q' = q → m_u3 (m_u3 (m_u3 (m_u3 (m_u3 (m_u3 (c_pf v z) 12 q 0 kd) 12 q 1 (nI a)) 12 q 2 to) 12 q 3 og) 12 q 4 tg) 12 q 5 pn 12 q' j = v 12 q' j := by
    intro q' j hq
    rw [u3_n (by omega), u3_n (by omega), u3_n (by omega), u3_n (by omega), u3_n (by omega), u3_n (by omega), pf_k rfl]
  have e12q : m_u3 (m_u3 (m_u3 (m_u3 (m_u3 (m_u3 (c_pf v z) 12 q 0 kd) 12 q 1 (nI a)) 12 q 2 to) 12 q 3 og) 12 q 4 tg) 12 q 5 pn 12 q 0 = kd ∧ m_u3 (m_u3 (m_u3 (m_u3 (m_u3 (m_u3 (c_pf v z) 12 q 0 kd) 12 q 1 (nI a)) 12 q 2 to) 12 q 3 og) 12 q 4 tg) 12 q 5 pn 12 q 1 = nI a ∧ m_u3 (m_u3 (m_u3 (m_u3 (m_u3 (m_u3 (c_pf v z) 12 q 0 kd) 12 q 1 (nI a)) 12 q 2 to) 12 q 3 og) 12 q 4 tg) 12 q 5 pn 12 q 2 = to ∧ m_u3 (m_u3 (m_u3 (m_u3 (m_u3 (m_u3 (c_pf v z) 12 q 0 kd) 12 q 1 (nI a)) 12 q 2 to) 12 q 3 og) 12 q 4 tg) 12 q 5 pn 12 q 3 = og ∧ m_u3 (m_u3 (m_u3 (m_u3 (m_u3 (m_u3 (c_pf v z) 12 q 0 kd) 12 q 1 (nI a)) 12 q 2 to) 12 q 3 og) 12 q 4 tg) 12 q 5 pn 12 q 4 = tg ∧ m_u3 (m_u3 (m_u3 (m_u3 (m_u3 (m_u3 (c_pf v z) 12 q 0 kd) 12 q 1 (nI a)) 12 q 2 to) 12 q 3 og) 12 q 4 tg) 12 q 5 pn 12 q 5 = pn := by
    refine ⟨?_, ?_, ?_, ?_, ?_, u3_s⟩
    · rw [u3_n (by omega), u3_n (by omega), u3_n (by omega), u3_n (by omega), u3_n (by omega), u3_s]
    · rw [u3_n (by omega), u3_n (by omega), u3_n (by omega), u3_n (by omega), u3_s]
    · rw [u3_n (by omega), u3_n (by omega), u3_n (by omega), u3_s]
    · rw [u3_n (by omega), u3_n (by omega), u3_s]
    · rw [u3_n (by omega), u3_s]
  have eV : c_send n v a kd to og tg pn q z = c_load n (m_u3 (m_u3 (m_u3 (m_u3 (m_u3 (m_u3 (c_pf v z) 12 q 0 kd) 12 q 1 (nI a)) 12 q 2 to) 12 q 3 og) 12 q 4 tg) 12 q 5 pn) a q := rfl
  have hVk : ∀ K, (Nat.beq K 11 || (Nat.beq K 12 || (Nat.beq K 13 || (Nat.beq K 14 || Nat.beq K 15)))) = false → Nat.beq K 2 = false → c_send n v a kd to og tg pn q z K = v K := fun K h1 h2 => (send_k h1).trans (pf_k h2)
  have hV2 : c_send n v a kd to og tg pn q z 2 0 1 = nI (if z < 24 then z + 1 else z) := by rw [send_k rfl, pf_z hz hz24]
  have hfn : F_n n (c_send n v a kd to og tg pn q z) := fn_send hf
  rw [eV] at hVk hV2 hfn ⊢
  generalize m_u3 (m_u3 (m_u3 (m_u3 (m_u3 (m_u3 (c_pf v z) 12 q 0 kd) 12 q 1 (nI a)) 12 q 2 to) 12 q 3 og) 12 q 4 tg) 12 q 5 pn = w at *
  have hFw : c_lo w a (-1) n = f := by rw [lo_k e11]; exact hF
  have hGw : two n w a = g := by
    rw [← hG]
    unfold two
    rw [hFw, hF]
    cases f with
    | none => rfl
    | some s => exact lo_k e11 n
  obtain ⟨L11, L12, Lo, Lf, Lg⟩ := load_V (q := q) hFw hGw hdd
  generalize hVV : c_load n w a q = V at *
  -- the reference's state
  have hUk := fun (K : Nat) hK => dsend_k (n := n) (a := a) (r := z) (kd := kd) (to := to) (og := og) (tg := tg) (pn := pn) (u := u) (k := K) hK
  have hU0 := dsend_0 (n := n) (a := a) (r := z) (kd := kd) (to := to) (og := og) (tg := tg) (pn := pn) (u := u)
  have hU13 := dsend_13 (n := n) (a := a) (kd := kd) (to := to) (og := og) (tg := tg) (pn := pn) hzu hz24
  have hX : ∀ K, ¬ K = 20 → ¬ (33 ≤ K ∧ K ≤ 42) → (if 24 ≤ nI z then u else m_u3 (d_c2 (d_f7 u a kd to og tg pn z) a z f g) 20 0 13 (nI (z + 1))) K = u K := by
    intro K h1 h2
    split
    · rfl
    · have hb : ∀ K', (K' = 20 ∨ (33 ≤ K' ∧ K' ≤ 42)) → Nat.beq K K' = false := by
        intro K' hK'
        cases e : Nat.beq K K' with
        | false => rfl
        | true => exact absurd (Nat.eq_of_beq_eq_true e) (by omega)
      rw [u3_k (hb 20 (by omega)), c2_k (by rw [hb 39 (by omega), hb 40 (by omega), hb 41 (by omega), hb 42 (by omega)]; rfl), f7_k (by omega)]
  have eU : d_send n u a kd to og tg pn z = d_sp (d_sp (if 24 ≤ nI z then u else m_u3 (d_c2 (d_f7 u a kd to og tg pn z) a z f g) 20 0 13 (nI (z + 1))) a f) a g := by
    unfold d_send
    rw [← hlo.1, ← htwo]
  have hU25 : ∀ a' m', m' < 6 → d_send n u a kd to og tg pn z 28 0 (6 * a' + m') = (if a' = a ∧ (some m' = f ∨ some m' = g) then u 28 0 (6 * a' + m') + 1 else u 28 0 (6 * a' + m')) ∧ d_send n u a kd to og tg pn z 25 0 (6 * a' + m') = (if a' = a ∧ (some m' = f ∨ some m' = g) then (if 6 ≤ u 28 0 (6 * a' + m') + 1 then 0 else 1) else u 25 0 (6 * a' + m')) := by
    intro a' m' hm'
    have e := sp_2 (u := if 24 ≤ nI z then u else m_u3 (d_c2 (d_f7 u a kd to og tg pn z) a z f g) 20 0 13 (nI (z + 1))) (a := a) (a' := a') hf6 hg6 hdd hm'
    rw [hX 28 (by omega) (by omega), hX 25 (by omega) (by omega)] at e
    rw [eU]
    exact e
  have hUm : ∀ K j, ¬ j = z → 33 ≤ K → K ≤ 39 → d_send n u a kd to og tg pn z K 0 j = u K 0 j := by
    intro K j hj h1 h2
    have hb : (Nat.beq K 25 || Nat.beq K 28) = false := by
      cases e : Nat.beq K 25 with
      | true => exact absurd (Nat.eq_of_beq_eq_true e) (by omega)
      | false =>
        cases e : Nat.beq K 28 with
        | true => exact absurd (Nat.eq_of_beq_eq_true e) (by omega)
        | false => rfl
    rw [eU, sp_k hb, sp_k hb]
    split
    · rfl
    · rw [u3_n (by omega), c2_j (by omega) (by omega), f7_j hj]
  have hUn : ∀ K j, ¬ (j = 2 * z ∨ j = 2 * z + 1) → 40 ≤ K → K ≤ 42 → d_send n u a kd to og tg pn z K 0 j = u K 0 j := by
    intro K j hj h1 h2
    have hb : (Nat.beq K 25 || Nat.beq K 28) = false := by
      cases e : Nat.beq K 25 with
      | true => exact absurd (Nat.eq_of_beq_eq_true e) (by omega)
      | false =>
        cases e : Nat.beq K 28 with
        | true => exact absurd (Nat.eq_of_beq_eq_true e) (by omega)
        | false => rfl
    rw [eU, sp_k hb, sp_k hb]
    split
    · rfl
    · rw [u3_n (by omega), c2_j (by omega) (by omega), f7_k (by omega)]
  have hzV : zz V = if z < 24 then z + 1 else z := by
    show ix (V 2 0 1) = _
    rw [hV2, ix_nI (by split <;> omega)]
  have hgV : gg V = gg v := by
    funext j
    show ix (V 3 0 j) = ix (v 3 0 j)
    rw [hVk 3 rfl rfl]
  refine ⟨hn, hfn, hU0.trans hg, fun b hb => pn_of (hN b hb) (fun j => by rw [hVk 4 rfl rfl]) (fun k hk => by rcases hk with rfl | rfl | rfl | rfl | rfl <;> rw [hUk _ rfl]), fun b hb m hm => pv_of (hV b hb m hm) (by rw [hVk 5 rfl rfl]) (by rw [hVk 6 rfl rfl]) (by rw [hVk 7 rfl rfl]) (by rw [hUk 22 rfl]) (by rw [hUk 23 rfl]) (by rw [hUk 24 rfl]), fun b hb => by rw [hVk 5 rfl rfl, hVk 7 rfl rfl]; exact hS b hb, fun b hb m hm => ?_, ?_⟩
  · obtain ⟨k28, k25⟩ := hU25 b m (by omega)
    have k11 := L11 b m
    rw [e11] at k11
    by_cases hc : b = a ∧ (some m = f ∨ some m = g)
    · rw [if_pos hc] at k28 k25 k11
      obtain ⟨rfl, hc2⟩ := hc
      exact pb_sp (hB b hb m hm) (hkk m hc2).2 (by rw [hVk 9 rfl rfl]) (by rw [hVk 10 rfl rfl]) k11 k25 (by rw [hUk 26 rfl]) (by rw [hUk 27 rfl]) k28
    · rw [if_neg hc] at k28 k25 k11
      exact pb_of (hB b hb m hm) (by rw [hVk 9 rfl rfl]) (by rw [hVk 10 rfl rfl]) k11 k25 (by rw [hUk 26 rfl]) (by rw [hUk 27 rfl]) k28
  · unfold P_W
    rw [hzV, hgV, hV2, hVk 3 rfl rfl, hU13]
    refine ⟨⟨rfl, by split <;> omega, rfl⟩, hgg, hinj, fun k hk => ?_⟩
    by_cases hkz : k = z
    · have hz2 : z < 24 := by
        rcases Nat.lt_or_ge z 24 with q | q
        · exact q
        · rw [if_neg (by omega)] at hk
          omega
      subst hkz
      rw [hq']
      have hc24 : ¬ (24 : Int32) ≤ nI k := fun q => absurd ((nI_le' (a := 24) (b := k) (by omega) (by omega)).mp q) (by omega)
      have eU2 : ∀ K, (Nat.beq K 25 || Nat.beq K 28) = false → Nat.beq K 20 = false → d_send n u a kd to og tg pn k K = d_c2 (d_f7 u a kd to og tg pn k) a k f g K := by
        intro K h1 h2
        rw [eU, sp_k h1, sp_k h1, if_neg hc24, u3_k h2]
      obtain ⟨r33, r34, r35, r36, r37, r38, r39⟩ := f7_r (u := u) (a := a) (r := k) (kd := kd) (to := to) (og := og) (tg := tg) (pn := pn)
      obtain ⟨c39, cf, cg⟩ := c2_r (a := a) (f := f) (g := g) r39
      rw [f7_k (k := 26) (by omega), f7_k (k := 27) (by omega)] at cf cg
      have hq0 : ∀ j, ¬ j = 6 → V 12 q j = w 12 q j := fun j hj => by rw [L12, if_neg (fun z => hj z.2)]
      unfold P_M
      rw [hq0 0 (by omega), hq0 1 (by omega), hq0 2 (by omega), hq0 3 (by omega), hq0 4 (by omega), hq0 5 (by omega), L12 q 6, if_pos ⟨rfl, rfl⟩, e12q.1, e12q.2.1, e12q.2.2.1, e12q.2.2.2.1, e12q.2.2.2.2.1, e12q.2.2.2.2.2]
      rw [eU2 33 rfl rfl, eU2 34 rfl rfl, eU2 35 rfl rfl, eU2 36 rfl rfl, eU2 37 rfl rfl, eU2 38 rfl rfl, eU2 39 rfl rfl, eU2 40 rfl rfl, eU2 41 rfl rfl, eU2 42 rfl rfl]
      rw [c2_j (k := 33) (by omega) (by omega), c2_j (k := 34) (by omega) (by omega), c2_j (k := 35) (by omega) (by omega), c2_j (k := 36) (by omega) (by omega), c2_j (k := 37) (by omega) (by omega), c2_j (k := 38) (by omega) (by omega), r33, r34, r35, r36, r37, r38, c39]
      refine ⟨⟨rfl, hkd⟩, ⟨rfl, a, ha, rfl⟩, ⟨rfl, hto⟩, ⟨rfl, hog⟩, ⟨rfl, htg⟩, rfl, rfl, n_c f g, ?_, rfl, fun j hj => ?_⟩
      · unfold n_c
        split
        · omega
        · split <;> omega
      · have hw9 : w 9 = v 9 := ek 9 rfl rfl
        have hw10 : w 10 = v 10 := ek 10 rfl rfl
        have hnews : ∀ t, (some t = f ∨ some t = g) → v 9 a t = u 26 0 (6 * a + t) ∧ s3 (v 9 a t) ∧ v 10 a t = u 27 0 (6 * a + t) := by
          intro t ht
          obtain ⟨k1, k2⟩ := hkk t ht
          rcases hB a ha t k1 with ⟨-, -, -, b9, b10⟩ | ⟨z, -⟩
          · exact ⟨b9.1, b9.2, b10⟩
          · rw [k2] at z
            exact absurd z (by decide)
        cases f with
        | none => exact absurd hj (by show ¬ j < 0; omega)
        | some s =>
          obtain ⟨f1, f2, f3⟩ := Lf s rfl
          obtain ⟨g1, g2, g3⟩ := cf s rfl
          obtain ⟨b9, b9s, b10⟩ := hnews s (Or.inl rfl)
          have hj0 : j = 0 ∨ (j = 1 ∧ ∃ t, g = some t) := by
            cases g with
            | none => have : j < 1 := hj; omega
            | some t => have : j < 2 := hj; rcases Nat.eq_zero_or_pos j with z | z; exact Or.inl z; exact Or.inr ⟨by omega, t, rfl⟩
          rcases hj0 with rfl | ⟨rfl, t, rfl⟩
          · rw [f1, f2, f3, g1, g2, g3, hw9, hw10]
            exact ⟨⟨rfl, s, (hkk s (Or.inl rfl)).1, rfl⟩, ⟨b9, b9s⟩, b10⟩
          · obtain ⟨p1, p2, p3⟩ := Lg s t rfl rfl
            obtain ⟨q1, q2, q3⟩ := cg s t rfl rfl
            obtain ⟨d9, d9s, d10⟩ := hnews t (Or.inr rfl)
            rw [p1, p2, p3, q1, q2, q3, hw9, hw10]
            exact ⟨⟨rfl, t, (hkk t (Or.inr rfl)).1, rfl⟩, ⟨d9, d9s⟩, d10⟩
    · have hkz2 : k < z := by
        split at hk <;> omega
      have hne : ¬ gg v k = q := by
        intro e
        rw [← hq'] at e
        exact hkz (hinj k z (by omega) (by omega) e)
      refine pm_of (hM k hkz2) (fun j => ?_) (fun j _ => ?_) (fun j _ => ?_) (fun j _ => ?_) (fun K h1 h2 => hUm K k hkz h1 h2) (fun K h1 h2 j hj => hUn K _ (by omega) h1 h2)
      · rw [L12, if_neg (fun z => hne z.1), e12o _ _ hne]
      · rw [(Lo _ j hne).1, ek 13 rfl rfl]
      · rw [(Lo _ j hne).2.1, ek 14 rfl rfl]
      · rw [(Lo _ j hne).2.2, ek 15 rfl rfl]
