/-! THE FIRST STATE, AND THE LAW FROM ITS ENTRY -/
theorem R_0 {n : Nat} {v u : mV} (h2 : 2 ≤ n) (h6 : n ≤ 6) (h : I_0 n v u) : R_R n v u := by
  obtain ⟨⟨a1, a2, a3, a4⟩, hN, hV, hG⟩ := h
  have hz : zz v = 0 := by
    unfold zz
    rw [a3]
    rfl
  have hg : ∀ j, j < 25 → gg v j = j := by
    intro j hj
    unfold gg
    rw [hG j hj, ix_nI (by omega)]
  refine ⟨⟨h2, h6⟩, ⟨a1, fun a ha => (hN a ha).1⟩, a2, fun a ha => ?_, fun a ha m hm => ?_, fun a ha => ?_, fun a ha m hm => ?_, ?_⟩
  · obtain ⟨-, p6, p7, p8, p9, p10⟩ := hN a ha
    exact ⟨Or.inl p6, ⟨p7.1.trans p7.2.symm, a, ha, p7.1⟩, p8.1.trans p8.2.symm, ⟨p9.1.trans p9.2.symm, Or.inl p9.1⟩, p10.1.trans p10.2.symm, Or.inl p10.1⟩
  · obtain ⟨q5, q6, q7, -⟩ := hV a ha m hm
    exact ⟨⟨q5.1.trans q5.2.symm, Or.inl q5.1⟩, q6.1.trans q6.2.symm, q7.1.trans q7.2.symm⟩
  · obtain ⟨q5, -, q7, -⟩ := hV a ha a ha
    exact ⟨q5.1, q7.1⟩
  · exact Or.inr ⟨(hV a ha m hm).2.2.2.2, (hV a ha m hm).2.2.2.1⟩
  · refine ⟨?_, fun j hj => ?_, fun i j hi hj e => ?_, fun k hk => ?_⟩
    · rw [hz, a3, a4]
      exact ⟨rfl, Nat.zero_le _, rfl⟩
    · rw [hg j hj]
      exact ⟨hG j hj, hj⟩
    · rw [hg i hi, hg j hj] at e
      exact e
    · rw [hz] at hk
      exact absurd hk (Nat.not_lt_zero _)
/-- the script's first int -/
def cl_v (L : Nat) (xs : Nat → Int32) : Int32 := if nI L ≤ 0 then 0 else xs 0
theorem e_cell (d : Nat) {cs : Bool} {n L : Nat} {xs : Nat → Int32} {M : aM} (hL : L ≤ 1537) : E_v cs n L xs (d + 1) 48 [Sum.inr (Sum.inl (50, 0)), Sum.inl 0] M (some (Sum.inl (cl_v L xs))) M := by
  refine E_mk mc_48 (by decide) ?_
  refine G_steps 4 (S1 := (if nI L ≤ 0 then 12 else 6, [some (Sum.inr (Sum.inl (50, 0))), some (Sum.inl 0)], [], M)) rfl rfl ?_
  by_cases h : nI L ≤ 0
  · refine G_iT h ?_
    refine G_steps 1 (S1 := (13, [some (Sum.inr (Sum.inl (50, 0))), some (Sum.inl 0)], [Sum.inl 0], M)) rfl rfl ?_
    exact G_fin rfl (by unfold cl_v; rw [if_pos h]) rfl
  · refine G_iF h ?_
    have hp : 0 < L := by
      rcases Nat.eq_zero_or_pos L with z | z
      · refine absurd ?_ h
        rw [z]
        decide
      · exact z
    refine G_steps 2 (S1 := (8, [some (Sum.inr (Sum.inl (50, 0))), some (Sum.inl 0)], [Sum.inl 0, Sum.inr (Sum.inl (50, 0))], M)) rfl rfl ?_
    refine G_step (S1 := (9, [some (Sum.inr (Sum.inl (50, 0))), some (Sum.inl 0)], [Sum.inl (xs (ix 0))], M)) rfl (ib_L (j := 0) hp hL) ?_
    refine G_steps 1 (S1 := (13, [some (Sum.inr (Sum.inl (50, 0))), some (Sum.inl 0)], [Sum.inl (xs (ix 0))], M)) rfl rfl ?_
    exact G_fin rfl (by unfold cl_v; rw [if_neg h]; rfl) rfl
/-- how many nodes an argument asks for -/
def n_y (n : Nat) (y : Int32) : Prop := ((y < 2 ∨ ¬ y ≤ 6) ∧ n = 4) ∨ (¬ y < 2 ∧ y ≤ 6 ∧ y = nI n)
theorem n_ex (y : Int32) : ∃ n, 2 ≤ n ∧ n ≤ 6 ∧ n_y n y := by
  by_cases h1 : y < 2
  · exact ⟨4, by omega, by omega, Or.inl ⟨Or.inl h1, rfl⟩⟩
  · by_cases h2 : y ≤ 6
    · have g1 : ¬ y.toInt < 2 := fun z => h1 (Int32.lt_iff_toInt_lt.mpr z)
      have g2 : y.toInt ≤ 6 := Int32.le_iff_toInt_le.mp h2
      have e : y = nI y.toInt.toNat := by
        apply Int32.toInt_inj.mp
        rw [nI_toInt (by omega)]
        omega
      exact ⟨y.toInt.toNat, by omega, by omega, Or.inr ⟨h1, h2, e⟩⟩
    · exact ⟨4, by omega, by omega, Or.inl ⟨Or.inr h2, rfl⟩⟩
theorem pre_0 {n L : Nat} {xs : Nat → Int32} {C : Nat → List aV → aM → Option aV → aM → Prop} {Z : aS → Prop} {M : aM} {y : Int32} (hy : n_y n y) (K : G_o true n L xs C (l_k cd_0) Z (21, [some (Sum.inr (Sum.inl (0, 0))), some (Sum.inl y), none], [Sum.inl (nI n), Sum.inr (Sum.inl (0, 0))], M)) : G_o true n L xs C (l_k cd_0) Z (0, [some (Sum.inr (Sum.inl (0, 0))), some (Sum.inl y), none], [], M) := by
  refine G_steps 6 (S1 := (if y < 2 then 16 else 10, [some (Sum.inr (Sum.inl (0, 0))), some (Sum.inl y), none], [Sum.inr (Sum.inl (0, 0))], M)) rfl rfl ?_
  rcases hy with ⟨hy, rfl⟩ | ⟨h1, h2, e⟩
  · by_cases h1 : y < 2
    · refine G_iT h1 ?_
      exact G_steps 2 (S1 := (21, [some (Sum.inr (Sum.inl (0, 0))), some (Sum.inl y), none], [Sum.inl (nI 4), Sum.inr (Sum.inl (0, 0))], M)) rfl rfl K
    · refine G_iF h1 ?_
      refine G_steps 3 (S1 := (if y ≤ 6 then 20 else 16, [some (Sum.inr (Sum.inl (0, 0))), some (Sum.inl y), none], [Sum.inr (Sum.inl (0, 0))], M)) rfl rfl ?_
      refine G_iF (hy.resolve_left h1) ?_
      exact G_steps 2 (S1 := (21, [some (Sum.inr (Sum.inl (0, 0))), some (Sum.inl y), none], [Sum.inl (nI 4), Sum.inr (Sum.inl (0, 0))], M)) rfl rfl K
  · refine G_iF h1 ?_
    refine G_steps 3 (S1 := (if y ≤ 6 then 20 else 16, [some (Sum.inr (Sum.inl (0, 0))), some (Sum.inl y), none], [Sum.inr (Sum.inl (0, 0))], M)) rfl rfl ?_
    refine G_iT h2 ?_
    refine G_steps 1 (S1 := (21, [some (Sum.inr (Sum.inl (0, 0))), some (Sum.inl y), none], [Sum.inl y, Sum.inr (Sum.inl (0, 0))], M)) rfl rfl ?_
    exact G_top e K
theorem pre_9 {n L : Nat} {xs : Nat → Int32} {C : Nat → List aV → aM → Option aV → aM → Prop} {Z : aS → Prop} {M : aM} {y : Int32} (hy : n_y n y) (K : G_o true n L xs C (l_k cd_49) Z (197, [some (Sum.inr (Sum.inl (20, 0))), some (Sum.inl y), none], [Sum.inl (nI n), Sum.inr (Sum.inl (20, 0))], M)) : G_o true n L xs C (l_k cd_49) Z (181, [some (Sum.inr (Sum.inl (20, 0))), some (Sum.inl y), none], [Sum.inr (Sum.inl (20, 0))], M) := by
  refine G_steps 3 (S1 := (if y < 2 then 192 else 186, [some (Sum.inr (Sum.inl (20, 0))), some (Sum.inl y), none], [Sum.inr (Sum.inl (20, 0))], M)) rfl rfl ?_
  rcases hy with ⟨hy, rfl⟩ | ⟨h1, h2, e⟩
  · by_cases h1 : y < 2
    · refine G_iT h1 ?_
      exact G_steps 2 (S1 := (197, [some (Sum.inr (Sum.inl (20, 0))), some (Sum.inl y), none], [Sum.inl (nI 4), Sum.inr (Sum.inl (20, 0))], M)) rfl rfl K
    · refine G_iF h1 ?_
      refine G_steps 3 (S1 := (if y ≤ 6 then 196 else 192, [some (Sum.inr (Sum.inl (20, 0))), some (Sum.inl y), none], [Sum.inr (Sum.inl (20, 0))], M)) rfl rfl ?_
      refine G_iF (hy.resolve_left h1) ?_
      exact G_steps 2 (S1 := (197, [some (Sum.inr (Sum.inl (20, 0))), some (Sum.inl y), none], [Sum.inl (nI 4), Sum.inr (Sum.inl (20, 0))], M)) rfl rfl K
  · refine G_iF h1 ?_
    refine G_steps 3 (S1 := (if y ≤ 6 then 196 else 192, [some (Sum.inr (Sum.inl (20, 0))), some (Sum.inl y), none], [Sum.inr (Sum.inl (20, 0))], M)) rfl rfl ?_
    refine G_iT h2 ?_
    refine G_steps 1 (S1 := (197, [some (Sum.inr (Sum.inl (20, 0))), some (Sum.inl y), none], [Sum.inl y, Sum.inr (Sum.inl (20, 0))], M)) rfl rfl ?_
    exact G_top e K
theorem le_ar {q : aV} {y : aV} : l_le [some q, none, none] [some q, some y, none] := by
  refine ⟨rfl, fun i x h => ?_⟩
  match i, h with
  | 0, h => exact h
  | 1, h => cases h
  | 2, h => cases h
  | i + 3, h => cases h
theorem e_c0 {n L : Nat} {xs : Nat → Int32} {y : Int32} {S1 : aS} (hy : n_y n y) (hr : r_1 n = some S1) (hp : S1.1 = 80) (hs : S1.2.2.1 = []) : E_v true n L xs 7 0 [Sum.inr (Sum.inl (0, 0)), Sum.inl y] (m_al M_0 0 0) none S1.2.2.2 := by
  refine E_mk (d := 6) mc_0 (by decide) ?_
  refine pre_0 hy ?_
  obtain ⟨l1, h1, h2⟩ := run_ok (L := L) (xs := xs) (C := E_v true n L xs 6) (fun mj av M y M1 h => ev_ok 6 mj av M y M1 h) 2000 _ S1 [some (Sum.inr (Sum.inl (0, 0))), some (Sum.inl y), none] hr le_ar
  refine G_seq h2 (fun S' hS' => G_end ?_)
  obtain ⟨pc, lo, st, M1⟩ := S1
  dsimp only at hp hs hS'
  subst hp
  subst hs
  subst hS'
  rfl
theorem e_c9 {n L : Nat} {xs : Nat → Int32} {y : Int32} {M : aM} {S2 S3 : aS} (hy : n_y n y) (hr2 : r_2 n M = some S2) (hp2 : S2.1 = 181) (hs2 : S2.2.2.1 = [rf_2]) (hr3 : r_3 n S2.2.2.2 = some S3) (hp3 : S3.1 = 228) (hs3 : S3.2.2.1 = []) : E_v true n L xs 7 49 [Sum.inr (Sum.inl (20, 0)), Sum.inl y] (m_al M 20 0) none S3.2.2.2 := by
  refine E_mk (d := 6) mc_49 (by decide) ?_
  have h1 := run_q_ok (L := L) (xs := xs) (C := E_v true n L xs 6) (l' := [some (Sum.inr (Sum.inl (20, 0))), some (Sum.inl y), none]) 2000 _ S2 hr2 le_ar
  refine G_seq h1 (fun S' hS' => ?_)
  obtain ⟨pc, lo, st, M2⟩ := S2
  dsimp only at hp2 hs2 hS' hr3
  subst hp2
  subst hs2
  subst hS'
  refine pre_9 hy ?_
  obtain ⟨l1, h3, h4⟩ := run_ok (L := L) (xs := xs) (C := E_v true n L xs 6) (fun mj av M y M1 h => ev_ok 6 mj av M y M1 h) 2000 _ S3 [some (Sum.inr (Sum.inl (20, 0))), some (Sum.inl y), none] hr3 le_ar
  refine G_seq h4 (fun S' hS' => G_end ?_)
  obtain ⟨pc, lo, st, M3⟩ := S3
  dsimp only at hp3 hs3 hS'
  subst hp3
  subst hs3
  subst hS'
  rfl
theorem b_all {n : Nat} (h2 : 2 ≤ n) (h6 : n ≤ 6) : ∃ S1 S2 S3, (r_1 n = some S1 ∧ S1.1 = 80 ∧ S1.2.2.1 = []) ∧ (K_T n)[S1.2.2.2.2.2]? = some (20, 0) ∧ (r_2 n S1.2.2.2 = some S2 ∧ S2.1 = 181 ∧ S2.2.2.1 = [rf_2]) ∧ (r_3 n S2.2.2.2 = some S3 ∧ S3.1 = 228 ∧ S3.2.2.1 = []) ∧ S3.2.2.2.2.2 = (K_T n).length ∧ (K_T n).all (f_ok n S3.2.2.2) = true ∧ I_0 n S3.2.2.2.1 S3.2.2.2.2.1 := by
  have h := b_ok n h2 h6
  unfold b_1 at h
  split at h
  · rename_i S1 e1
    simp only [Bool.and_eq_true] at h
    obtain ⟨p1, s1, k1, h⟩ := h
    split at h
    · rename_i S2 e2
      unfold b_2 at h
      simp only [Bool.and_eq_true] at h
      obtain ⟨⟨p2, s2⟩, h⟩ := h
      split at h
      · rename_i S3 e3
        simp only [Bool.and_eq_true] at h
        obtain ⟨p3, s3, h⟩ := h
        unfold b_3 at h
        simp only [Bool.and_eq_true] at h
        obtain ⟨c3, f3, i3⟩ := h
        exact ⟨S1, S2, S3, ⟨e1, Nat.eq_of_beq_eq_true p1, List.isEmpty_iff.mp s1⟩, of_decide_eq_true k1, ⟨e2, Nat.eq_of_beq_eq_true p2, of_decide_eq_true s2⟩, ⟨e3, Nat.eq_of_beq_eq_true p3, List.isEmpty_iff.mp s3⟩, Nat.eq_of_beq_eq_true c3, f3, @of_decide_eq_true _ (I_0d n S3.2.2.2.1 S3.2.2.2.2.1) i3⟩
      · cases h
    · cases h
  · cases h
theorem lw_first {n L : Nat} {xs : Nat → Int32} {M1 M3 : aM} (hL : L ≤ 1537) (hk : (K_T n)[M1.2.2]? = some (20, 0)) (h0 : E_v true n L xs 7 0 [Sum.inr (Sum.inl (0, 0)), Sum.inl (cl_v L xs)] (m_al M_0 0 0) none M1) (h9 : E_v true n L xs 7 49 [Sum.inr (Sum.inl (20, 0)), Sum.inl (cl_v L xs)] (m_al M1 20 0) none M3) : G_o true n L xs (E_v true n L xs 7) (l_k cd_83) (fun S => S = (28, [some (Sum.inr (Sum.inl (50, 0))), some (Sum.inr (Sum.inl (0, 0))), some (Sum.inr (Sum.inl (20, 0))), some (Sum.inl (nI 1))], [], M3)) (0, i_L 83 [.inr (.inl (50, 0))], [], (fun _ _ _ => 0, fun _ _ _ => 0, 0)) := by
  refine G_steps 4 (S1 := (6, [some (Sum.inr (Sum.inl (50, 0))), none, none, none], [Sum.inl 0, Sum.inr (Sum.inl (50, 0)), Sum.inr (Sum.inl (0, 0)), Sum.inr (Sum.inl (0, 0))], m_al M_0 0 0)) rfl rfl ?_
  refine G_call (y := some (Sum.inl (cl_v L xs))) (M1 := m_al M_0 0 0) rfl rfl (e_cell 6 hL) ?_
  refine G_is (S' := (9, [some (Sum.inr (Sum.inl (50, 0))), none, none, none], [Sum.inl (cl_v L xs), Sum.inr (Sum.inl (0, 0)), Sum.inr (Sum.inl (0, 0))], m_al M_0 0 0)) rfl ?_
  refine G_call (y := none) (M1 := M1) rfl rfl h0 ?_
  refine G_is (S' := (12, [some (Sum.inr (Sum.inl (50, 0))), none, none, none], [Sum.inr (Sum.inl (0, 0))], M1)) rfl ?_
  refine G_steps 1 (S1 := (13, [some (Sum.inr (Sum.inl (50, 0))), some (Sum.inr (Sum.inl (0, 0))), none, none], [], M1)) rfl rfl ?_
  refine G_step (bl := true) (S1 := (16, [some (Sum.inr (Sum.inl (50, 0))), some (Sum.inr (Sum.inl (0, 0))), none, none], [Sum.inr (Sum.inl (20, 0))], m_al M1 20 0)) ?_ rfl ?_
  · show f_new true n 5 13 [some (Sum.inr (Sum.inl (50, 0))), some (Sum.inr (Sum.inl (0, 0))), none, none] [] M1 = _
    unfold f_new
    rw [hk]
    rfl
  refine G_steps 3 (S1 := (19, [some (Sum.inr (Sum.inl (50, 0))), some (Sum.inr (Sum.inl (0, 0))), none, none], [Sum.inl 0, Sum.inr (Sum.inl (50, 0)), Sum.inr (Sum.inl (20, 0)), Sum.inr (Sum.inl (20, 0))], m_al M1 20 0)) rfl rfl ?_
  refine G_call (y := some (Sum.inl (cl_v L xs))) (M1 := m_al M1 20 0) rfl rfl (e_cell 6 hL) ?_
  refine G_is (S' := (22, [some (Sum.inr (Sum.inl (50, 0))), some (Sum.inr (Sum.inl (0, 0))), none, none], [Sum.inl (cl_v L xs), Sum.inr (Sum.inl (20, 0)), Sum.inr (Sum.inl (20, 0))], m_al M1 20 0)) rfl ?_
  refine G_call (y := none) (M1 := M3) rfl rfl h9 ?_
  refine G_is (S' := (25, [some (Sum.inr (Sum.inl (50, 0))), some (Sum.inr (Sum.inl (0, 0))), none, none], [Sum.inr (Sum.inl (20, 0))], M3)) rfl ?_
  refine G_steps 3 (S1 := (28, [some (Sum.inr (Sum.inl (50, 0))), some (Sum.inr (Sum.inl (0, 0))), some (Sum.inr (Sum.inl (20, 0))), some (Sum.inl (nI 1))], [], M3)) rfl rfl ?_
  exact G_end rfl
theorem whole_start {p : Program} {e : Env} {s : State} {m : MethodId} {below : List Frame} {meth : Method} {c : Code} (l : Launch) {b L : Nat} {xs : Nat → Int32} (hL : L ≤ 1537) (C0 : lw_At p s m meth c b L xs) : W p l e room_1 s m #[Value.ref b] below meth c s.heap [] 0 0 (lw_Z below #[Value.ref b] s) (entryFrame m ([Value.ref b] : List Value).toArray 4) := by
  obtain ⟨n, hn2, hn6, hy⟩ := n_ex (cl_v L xs)
  obtain ⟨S1, S2, S3, ⟨e1, p1, s1⟩, k1, ⟨e2, p2, s2⟩, ⟨e3, p3, s3⟩, c3, f3, i3⟩ := b_all hn2 hn6
  have h0 := e_c0 (L := L) (xs := xs) hy e1 p1 s1
  have h9 := e_c9 (L := L) (xs := xs) hy e2 p2 s2 e3 p3 s3
  refine ws_at l C0 hn6 (M1 := S3.2.2.2) (pcl := 28) (ll := [some (Sum.inr (Sum.inl (50, 0))), some (Sum.inr (Sum.inl (0, 0))), some (Sum.inr (Sum.inl (20, 0))), some (Sum.inl (nI 1))]) f3 c3 (lw_first hL k1 h0 h9) ?_
  exact lw_loop (L := L) (xs := xs) c3 hL 1537 1 S3.2.2.2.1 S3.2.2.2.2.1 (by omega) (by omega) (R_0 hn2 hn6 i3)
