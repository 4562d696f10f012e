/-! THE RELATION between the class's ints and the reference's -/
def nd (n : Nat) (x : Int32) : Prop := ∃ t, t < n ∧ x = nI t
def tg (n a : Nat) (x : Int32) : Prop := ∃ t, t < n ∧ ¬ t = a ∧ x = nI t
def s3 (x : Int32) : Prop := x = 0 ∨ x = 1 ∨ x = 2
def P_N (n : Nat) (v u : mV) (a : Nat) : Prop := ((v 4 a 6 = 1 ∧ u 21 0 a = 0) ∨ (v 4 a 6 = 0 ∧ u 21 0 a = 1)) ∧ (v 4 a 7 = u 29 0 a ∧ nd n (v 4 a 7)) ∧ v 4 a 8 = u 30 0 a ∧ (v 4 a 9 = u 31 0 a ∧ (v 4 a 9 = -1 ∨ tg n a (v 4 a 9))) ∧ (v 4 a 10 = u 32 0 a ∧ (v 4 a 10 = 0 ∨ v 4 a 10 = 1))
def P_V (v u : mV) (a m : Nat) : Prop := (v 5 a m = u 22 0 (6 * a + m) ∧ s3 (v 5 a m)) ∧ v 6 a m = u 23 0 (6 * a + m) ∧ v 7 a m = u 24 0 (6 * a + m)
def P_B (v u : mV) (a m : Nat) : Prop := (u 25 0 (6 * a + m) = 1 ∧ v 11 a m = u 28 0 (6 * a + m) ∧ (∃ t, t < 6 ∧ v 11 a m = nI t) ∧ (v 9 a m = u 26 0 (6 * a + m) ∧ s3 (v 9 a m)) ∧ v 10 a m = u 27 0 (6 * a + m)) ∨ (u 25 0 (6 * a + m) = 0 ∧ v 11 a m = -1)
def P_M (n : Nat) (v u : mV) (q k : Nat) : Prop := (v 12 q 0 = u 33 0 k ∧ (v 12 q 0 = 1 ∨ v 12 q 0 = 2 ∨ v 12 q 0 = 3)) ∧ (v 12 q 1 = u 34 0 k ∧ nd n (v 12 q 1)) ∧ (v 12 q 2 = u 35 0 k ∧ nd n (v 12 q 2)) ∧ (v 12 q 3 = u 36 0 k ∧ nd n (v 12 q 3)) ∧ (v 12 q 4 = u 37 0 k ∧ nd n (v 12 q 4)) ∧ v 12 q 5 = u 38 0 k ∧ v 12 q 6 = u 39 0 k ∧ ∃ cnt, cnt ≤ 2 ∧ v 12 q 6 = nI cnt ∧ ∀ j, j < cnt → (v 13 q j = u 40 0 (2 * k + j) ∧ nd n (v 13 q j)) ∧ (v 14 q j = u 41 0 (2 * k + j) ∧ s3 (v 14 q j)) ∧ v 15 q j = u 42 0 (2 * k + j)
def P_W (n : Nat) (v u : mV) : Prop := (v 2 0 1 = nI (zz v) ∧ zz v ≤ 24 ∧ u 20 0 13 = nI (zz v)) ∧ (∀ j, j < 25 → v 3 0 j = nI (gg v j) ∧ gg v j < 25) ∧ (∀ i j, i < 25 → j < 25 → gg v i = gg v j → i = j) ∧ ∀ k, k < zz v → P_M n v u (gg v k) k
def R_R (n : Nat) (v u : mV) : Prop := (2 ≤ n ∧ n ≤ 6) ∧ F_n n v ∧ F_m n u ∧ (∀ a, a < n → P_N n v u a) ∧ (∀ a, a < n → ∀ m, m < n → P_V v u a m) ∧ (∀ a, a < n → v 5 a a = 0 ∧ v 7 a a = 0) ∧ (∀ a, a < n → ∀ m, m < n → P_B v u a m) ∧ P_W n v u
theorem pn_of {n : Nat} {v u v' u' : mV} {a : Nat} (h : P_N n v u a) (h4 : ∀ j, v' 4 a j = v 4 a j) (hu : ∀ k, k = 21 ∨ k = 29 ∨ k = 30 ∨ k = 31 ∨ k = 32 → u' k 0 a = u k 0 a) : P_N n v' u' a := by
  unfold P_N
  rw [h4, h4, h4, h4, h4, hu 21 (by omega), hu 29 (by omega), hu 30 (by omega), hu 31 (by omega), hu 32 (by omega)]
  exact h
theorem pv_of {v u v' u' : mV} {a m : Nat} (h : P_V v u a m) (h5 : v' 5 a m = v 5 a m) (h6 : v' 6 a m = v 6 a m) (h7 : v' 7 a m = v 7 a m) (h22 : u' 22 0 (6 * a + m) = u 22 0 (6 * a + m)) (h23 : u' 23 0 (6 * a + m) = u 23 0 (6 * a + m)) (h24 : u' 24 0 (6 * a + m) = u 24 0 (6 * a + m)) : P_V v' u' a m := by
  unfold P_V
  rw [h5, h6, h7, h22, h23, h24]
  exact h
theorem pb_of {v u v' u' : mV} {a m : Nat} (h : P_B v u a m) (h9 : v' 9 a m = v 9 a m) (h10 : v' 10 a m = v 10 a m) (h11 : v' 11 a m = v 11 a m) (h25 : u' 25 0 (6 * a + m) = u 25 0 (6 * a + m)) (h26 : u' 26 0 (6 * a + m) = u 26 0 (6 * a + m)) (h27 : u' 27 0 (6 * a + m) = u 27 0 (6 * a + m)) (h28 : u' 28 0 (6 * a + m) = u 28 0 (6 * a + m)) : P_B v' u' a m := by
  unfold P_B
  rw [h9, h10, h11, h25, h26, h27, h28]
  exact h
theorem pm_of {n : Nat} {v u v' u' : mV} {q k : Nat} (h : P_M n v u q k) (h12 : ∀ j, v' 12 q j = v 12 q j) (h13 : ∀ j, j < 2 → v' 13 q j = v 13 q j) (h14 : ∀ j, j < 2 → v' 14 q j = v 14 q j) (h15 : ∀ j, j < 2 → v' 15 q j = v 15 q j) (hu : ∀ K, 33 ≤ K → K ≤ 39 → u' K 0 k = u K 0 k) (hn : ∀ K, 40 ≤ K → K ≤ 42 → ∀ j, j < 2 → u' K 0 (2 * k + j) = u K 0 (2 * k + j)) : P_M n v' u' q k := by
  obtain ⟨g0, g1, g2, g3, g4, g5, g6, cnt, gc, gn, gj⟩ := h
  unfold P_M
  rw [h12, h12, h12, h12, h12, h12, h12, hu 33 (by omega) (by omega), hu 34 (by omega) (by omega), hu 35 (by omega) (by omega), hu 36 (by omega) (by omega), hu 37 (by omega) (by omega), hu 38 (by omega) (by omega), hu 39 (by omega) (by omega)]
  refine ⟨g0, g1, g2, g3, g4, g5, g6, cnt, gc, gn, fun j hj => ?_⟩
  rw [h13 j (by omega), h14 j (by omega), h15 j (by omega), hn 40 (by omega) (by omega) j (by omega), hn 41 (by omega) (by omega) j (by omega), hn 42 (by omega) (by omega) j (by omega)]
  exact gj j hj
theorem pw_of {n : Nat} {v u v' u' : mV} (h : P_W n v u) (h2 : v' 2 = v 2) (h3 : v' 3 = v 3) (h12 : v' 12 = v 12) (h13 : v' 13 = v 13) (h14 : v' 14 = v 14) (h15 : v' 15 = v 15) (h20 : u' 20 = u 20) (hu : ∀ K, 33 ≤ K → K ≤ 42 → u' K = u K) : P_W n v' u' := by
  have ez : zz v' = zz v := by unfold zz; rw [h2]
  have eg : gg v' = gg v := by funext j; unfold gg; rw [h3]
  obtain ⟨g1, g2, g3, g4⟩ := h
  unfold P_W
  rw [ez, eg, h2, h3, h20]
  refine ⟨g1, g2, g3, fun k hk => pm_of (g4 k hk) (fun j => by rw [h12]) (fun j _ => by rw [h13]) (fun j _ => by rw [h14]) (fun j _ => by rw [h15]) (fun K h1 h2 => by rw [hu K h1 (by omega)]) (fun K h1 h2 j _ => by rw [hu K (by omega) h2])⟩
/-- a view and its news are set -/
def U_V (v v' : mV) (a m : Nat) (s i : Int32) : Prop := (∀ k i' j', ¬ ((k = 5 ∨ k = 6 ∨ k = 7 ∨ k = 9 ∨ k = 10 ∨ k = 11) ∧ i' = a ∧ j' = m) → v' k i' j' = v k i' j') ∧ v' 5 a m = s ∧ v' 6 a m = i ∧ v' 7 a m = 0 ∧ v' 9 a m = s ∧ v' 10 a m = i ∧ v' 11 a m = 0
def U_U (u u' : mV) (p : Nat) (s i : Int32) : Prop := (∀ k j', ¬ (22 ≤ k ∧ k ≤ 28 ∧ j' = p) → u' k 0 j' = u k 0 j') ∧ u' 22 0 p = s ∧ u' 23 0 p = i ∧ u' 24 0 p = 0 ∧ u' 25 0 p = 1 ∧ u' 26 0 p = s ∧ u' 27 0 p = i ∧ u' 28 0 p = 0
theorem ad_RR {n : Nat} {v u v' u' : mV} {a m : Nat} {s i : Int32} (h : R_R n v u) (ha : a < n) (hm : m < n) (hs : s3 s) (hma : m = a → s = 0) (hv : U_V v v' a m s i) (hu : U_U u u' (6 * a + m) s i) : R_R n v' u' := by
  obtain ⟨hn, hf, hg, hN, hV, hS, hB, hW⟩ := h
  obtain ⟨v0, v5, v6, v7, v9, v10, v11⟩ := hv
  obtain ⟨u0, u22, u23, u24, u25, u26, u27, u28⟩ := hu
  have vk : ∀ k, ¬ (k = 5 ∨ k = 6 ∨ k = 7 ∨ k = 9 ∨ k = 10 ∨ k = 11) → v' k = v k := by
    intro k hk
    funext i' j'
    exact v0 k i' j' (fun z => hk z.1)
  have uk : ∀ k j, ¬ (22 ≤ k ∧ k ≤ 28) → u' k 0 j = u k 0 j := fun k j hk => u0 k j (fun z => hk ⟨z.1, z.2.1⟩)
  have hW' : P_W n v' u' := by
    obtain ⟨g1, g2, g3, g4⟩ := hW
    have ez : zz v' = zz v := by unfold zz; rw [vk 2 (by omega)]
    have eg : gg v' = gg v := by funext j; unfold gg; rw [vk 3 (by omega)]
    unfold P_W
    rw [ez, eg, vk 2 (by omega), vk 3 (by omega), uk 20 13 (by omega)]
    refine ⟨g1, g2, g3, fun k hk => pm_of (g4 k hk) (fun j => by rw [vk 12 (by omega)]) (fun j _ => by rw [vk 13 (by omega)]) (fun j _ => by rw [vk 14 (by omega)]) (fun j _ => by rw [vk 15 (by omega)]) (fun K h1 h2 => uk K _ (by omega)) (fun K h1 h2 j _ => uk K _ (by omega))⟩
  refine ⟨hn, ⟨by rw [vk 0 (by omega)]; exact hf.1, fun b hb => by rw [vk 4 (by omega)]; exact hf.2 b hb⟩, (uk 20 0 (by omega)).trans hg, fun b hb => pn_of (hN b hb) (fun j => by rw [vk 4 (by omega)]) (fun k hk => uk k b (by omega)), fun b hb q hq => ?_, fun b hb => ?_, fun b hb q hq => ?_, hW'⟩
  · by_cases he : b = a ∧ q = m
    · obtain ⟨rfl, rfl⟩ := he
      unfold P_V
      rw [v5, v6, v7, u22, u23, u24]
      exact ⟨⟨rfl, hs⟩, rfl, rfl⟩
    · have hp : ¬ 6 * b + q = 6 * a + m := by omega
      exact pv_of (hV b hb q hq) (v0 5 b q (fun z => he z.2)) (v0 6 b q (fun z => he z.2)) (v0 7 b q (fun z => he z.2)) (u0 22 _ (fun z => hp z.2.2)) (u0 23 _ (fun z => hp z.2.2)) (u0 24 _ (fun z => hp z.2.2))
  · by_cases he : b = a ∧ b = m
    · obtain ⟨rfl, rfl⟩ := he
      rw [v5, v7]
      exact ⟨hma rfl, rfl⟩
    · rw [v0 5 b b (fun z => he z.2), v0 7 b b (fun z => he z.2)]
      exact hS b hb
  · by_cases he : b = a ∧ q = m
    · obtain ⟨rfl, rfl⟩ := he
      unfold P_B
      rw [v9, v10, v11, u25, u26, u27, u28]
      exact Or.inl ⟨rfl, rfl, ⟨0, by omega, rfl⟩, ⟨rfl, hs⟩, rfl⟩
    · have hp : ¬ 6 * b + q = 6 * a + m := by omega
      exact pb_of (hB b hb q hq) (v0 9 b q (fun z => he z.2)) (v0 10 b q (fun z => he z.2)) (v0 11 b q (fun z => he z.2)) (u0 25 _ (fun z => hp z.2.2)) (u0 26 _ (fun z => hp z.2.2)) (u0 27 _ (fun z => hp z.2.2)) (u0 28 _ (fun z => hp z.2.2))
theorem uv_adopt {v w : mV} {a m : Nat} {s i : Int32} (h : ∀ k i' j', ¬ (k = 7 ∧ i' = a ∧ j' = m) → w k i' j' = v k i' j') : U_V v (c_adopt w a m s i) a m s i := by
  refine ⟨fun k i' j' hk => ?_, ?_, ?_, ?_, ?_, ?_, ?_⟩
  · unfold c_adopt c_ann
    rw [u3_n (by omega), u3_n (by omega), u3_n (by omega), u3_n (by omega), u3_n (by omega), u3_n (by omega), h k i' j' (by omega)]
  · unfold c_adopt c_ann
    rw [u3_k (k' := 5) rfl, u3_k (k' := 5) rfl, u3_k (k' := 5) rfl, u3_k (k' := 5) rfl, u3_k (k' := 5) rfl, u3_s]
  · unfold c_adopt c_ann
    rw [u3_k (k' := 6) rfl, u3_k (k' := 6) rfl, u3_k (k' := 6) rfl, u3_k (k' := 6) rfl, u3_s]
  · unfold c_adopt c_ann
    rw [u3_k (k' := 7) rfl, u3_k (k' := 7) rfl, u3_k (k' := 7) rfl, u3_s]
  · unfold c_adopt c_ann
    rw [u3_k (k' := 9) rfl, u3_k (k' := 9) rfl, u3_s]
  · unfold c_adopt c_ann
    rw [u3_k (k' := 10) rfl, u3_s]
  · unfold c_adopt c_ann
    rw [u3_s]
theorem uu_ann {u w : mV} {a m : Nat} {s i : Int32} (h : ∀ k j', ¬ (22 ≤ k ∧ k ≤ 24 ∧ j' = 6 * a + m) → w k 0 j' = u k 0 j') (h22 : w 22 0 (6 * a + m) = s) (h23 : w 23 0 (6 * a + m) = i) (h24 : w 24 0 (6 * a + m) = 0) : U_U u (d_ann w a m s i) (6 * a + m) s i := by
  refine ⟨fun k j' hk => ?_, ?_, ?_, ?_, ?_, ?_, ?_, ?_⟩
  · unfold d_ann
    rw [u3_n (by omega), u3_n (by omega), u3_n (by omega), u3_n (by omega), h k j' (by omega)]
  · rw [ann_k rfl]; exact h22
  · rw [ann_k rfl]; exact h23
  · rw [ann_k rfl]; exact h24
  · unfold d_ann
    rw [u3_k (k' := 25) rfl, u3_k (k' := 25) rfl, u3_k (k' := 25) rfl, u3_s]
  · unfold d_ann
    rw [u3_k (k' := 26) rfl, u3_k (k' := 26) rfl, u3_s]
  · unfold d_ann
    rw [u3_k (k' := 27) rfl, u3_s]
  · unfold d_ann
    rw [u3_s]
theorem i32_nlt {i j : Int32} : ¬ i < j ↔ j ≤ i := by
  rw [Int32.lt_iff_toInt_lt, Int32.le_iff_toInt_le]
  omega
theorem i32_nle {i j : Int32} : ¬ i ≤ j ↔ j < i := by
  rw [Int32.lt_iff_toInt_lt, Int32.le_iff_toInt_le]
  omega
theorem nw_eq {s i t j : Int32} (hs : s3 s) (ht : s3 t) : c_nw s i t j = d_nw s i t j := by
  have e : (if i < j then (0 : Int32) else 1) = if j ≤ i then 1 else 0 := by
    by_cases h : i < j
    · rw [if_pos h, if_neg (fun z => (i32_nlt.mpr z) h)]
    · rw [if_neg h, if_pos (i32_nlt.mp h)]
  rcases hs with rfl | rfl | rfl <;> rcases ht with rfl | rfl | rfl <;> simp [c_nw, d_nw, e]
theorem hear_RR {n : Nat} {v u : mV} {a m : Nat} {s i : Int32} (h : R_R n v u) (ha : a < n) (hm : m < n) (hs : s3 s) : R_R n (c_hear v a m s i) (d_hear u a m s i) := by
  have hn6 := h.1.2
  obtain ⟨⟨h5, h5s⟩, h6, h7⟩ := h.2.2.2.2.1 a ha m hm
  unfold c_hear d_hear
  by_cases he : nI m = nI a
  · have hma : m = a := (nI_inj' (by omega) (by omega)).mp he
    subst hma
    rw [if_pos he, if_pos he]
    by_cases hs0 : s = 0
    · rw [if_pos hs0, if_pos hs0]
      exact h
    · rw [if_neg hs0, if_neg hs0, h6]
      by_cases hi : i < u 23 0 (6 * m + m)
      · rw [if_pos hi, if_pos hi]
        exact h
      · rw [if_neg hi, if_neg hi]
        obtain ⟨g5, g7⟩ := h.2.2.2.2.2.1 m hm
        refine ad_RR h hm hm (Or.inl rfl) (fun _ => rfl) (uv_adopt (fun _ _ _ _ => rfl)) (uu_ann (fun k j' hk => u3_n (by omega)) ?_ u3_s ?_)
        · rw [u3_k (k' := 22) rfl, ← h5, g5]
        · rw [u3_k (k' := 24) rfl, ← h7, g7]
  · rw [if_neg he, if_neg he, ← h5, ← h6, ← nw_eq hs h5s]
    by_cases hw : c_nw s i (v 5 a m) (v 6 a m) = 0
    · rw [if_pos hw, if_pos hw]
      exact h
    · rw [if_neg hw, if_neg hw]
      refine ad_RR h ha hm hs (fun z => absurd (by rw [z]) he) (uv_adopt (fun _ _ _ _ => rfl)) (uu_ann (fun k j' hk => ?_) ?_ ?_ u3_s)
      · rw [u3_n (by omega), u3_n (by omega), u3_n (by omega)]
      · rw [u3_k (k' := 22) rfl, u3_k (k' := 22) rfl, u3_s]
      · rw [u3_k (k' := 23) rfl, u3_s]
