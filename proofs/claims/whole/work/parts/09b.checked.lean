theorem ck_use {k : Nat} {l : List (Nat × aI)} (hk : m_C k = l_k l) (hc : l.all (fun z => e_kb k z.1 z.2.1 z.2.2.1 z.2.2.2.1 z.2.2.2.2) = true) : ∀ pc i a b x, m_C k pc = some (i, a, b, x) → e_k k pc i a b x := by
  intro pc i a b x h
  rw [hk] at h
  have h1 := List.all_eq_true.mp hc (pc, i, a, b, x) (l_k_mem h)
  dsimp only at h1
  exact e_kb_ok (mi := k) (pc := pc) (i := i) (a := a) (b := b) (x := x) h1
theorem mc_0 : m_C 0 = l_k cd_0 := rfl
theorem mc_1 : m_C 1 = l_k cd_1 := rfl
theorem mc_2 : m_C 2 = l_k cd_2 := rfl
theorem mc_3 : m_C 3 = l_k cd_3 := rfl
theorem mc_4 : m_C 4 = l_k cd_4 := rfl
theorem mc_5 : m_C 5 = l_k cd_5 := rfl
theorem mc_6 : m_C 6 = l_k cd_6 := rfl
theorem mc_7 : m_C 7 = l_k cd_7 := rfl
theorem mc_8 : m_C 8 = l_k cd_8 := rfl
theorem mc_9 : m_C 9 = l_k cd_9 := rfl
theorem mc_10 : m_C 10 = l_k cd_10 := rfl
theorem mc_11 : m_C 11 = l_k cd_11 := rfl
theorem mc_12 : m_C 12 = l_k cd_12 := rfl
theorem mc_13 : m_C 13 = l_k cd_13 := rfl
theorem mc_14 : m_C 14 = l_k cd_14 := rfl
theorem mc_15 : m_C 15 = l_k cd_15 := rfl
theorem mc_16 : m_C 16 = l_k cd_16 := rfl
theorem mc_17 : m_C 17 = l_k cd_17 := rfl
theorem mc_18 : m_C 18 = l_k cd_18 := rfl
theorem mc_19 : m_C 19 = l_k cd_19 := rfl
theorem mc_20 : m_C 20 = l_k cd_20 := rfl
theorem mc_21 : m_C 21 = l_k cd_21 := rfl
theorem mc_22 : m_C 22 = l_k cd_22 := rfl
theorem mc_23 : m_C 23 = l_k cd_23 := rfl
theorem mc_24 : m_C 24 = l_k cd_24 := rfl
theorem mc_25 : m_C 25 = l_k cd_25 := rfl
theorem mc_26 : m_C 26 = l_k cd_26 := rfl
theorem mc_27 : m_C 27 = l_k cd_27 := rfl
theorem mc_28 : m_C 28 = l_k cd_28 := rfl
theorem mc_29 : m_C 29 = l_k cd_29 := rfl
theorem mc_30 : m_C 30 = l_k cd_30 := rfl
theorem mc_31 : m_C 31 = l_k cd_31 := rfl
theorem mc_32 : m_C 32 = l_k cd_32 := rfl
theorem mc_33 : m_C 33 = l_k cd_33 := rfl
theorem mc_34 : m_C 34 = l_k cd_34 := rfl
theorem mc_35 : m_C 35 = l_k cd_35 := rfl
theorem mc_36 : m_C 36 = l_k cd_36 := rfl
theorem mc_37 : m_C 37 = l_k cd_37 := rfl
theorem mc_38 : m_C 38 = l_k cd_38 := rfl
theorem mc_39 : m_C 39 = l_k cd_39 := rfl
theorem mc_40 : m_C 40 = l_k cd_40 := rfl
theorem mc_41 : m_C 41 = l_k cd_41 := rfl
theorem mc_42 : m_C 42 = l_k cd_42 := rfl
theorem mc_43 : m_C 43 = l_k cd_43 := rfl
theorem mc_44 : m_C 44 = l_k cd_44 := rfl
theorem mc_45 : m_C 45 = l_k cd_45 := rfl
theorem mc_46 : m_C 46 = l_k cd_46 := rfl
theorem mc_47 : m_C 47 = l_k cd_47 := rfl
theorem mc_48 : m_C 48 = l_k cd_48 := rfl
theorem mc_49 : m_C 49 = l_k cd_49 := rfl
theorem mc_50 : m_C 50 = l_k cd_50 := rfl
theorem mc_51 : m_C 51 = l_k cd_51 := rfl
theorem mc_52 : m_C 52 = l_k cd_52 := rfl
theorem mc_53 : m_C 53 = l_k cd_53 := rfl
theorem mc_54 : m_C 54 = l_k cd_54 := rfl
theorem mc_55 : m_C 55 = l_k cd_55 := rfl
theorem mc_56 : m_C 56 = l_k cd_56 := rfl
theorem mc_57 : m_C 57 = l_k cd_57 := rfl
theorem mc_58 : m_C 58 = l_k cd_58 := rfl
theorem mc_59 : m_C 59 = l_k cd_59 := rfl
theorem mc_60 : m_C 60 = l_k cd_60 := rfl
theorem mc_61 : m_C 61 = l_k cd_61 := rfl
theorem mc_62 : m_C 62 = l_k cd_62 := rfl
theorem mc_63 : m_C 63 = l_k cd_63 := rfl
theorem mc_64 : m_C 64 = l_k cd_64 := rfl
theorem mc_65 : m_C 65 = l_k cd_65 := rfl
theorem mc_66 : m_C 66 = l_k cd_66 := rfl
theorem mc_67 : m_C 67 = l_k cd_67 := rfl
theorem mc_68 : m_C 68 = l_k cd_68 := rfl
theorem mc_69 : m_C 69 = l_k cd_69 := rfl
theorem mc_70 : m_C 70 = l_k cd_70 := rfl
theorem mc_71 : m_C 71 = l_k cd_71 := rfl
theorem mc_72 : m_C 72 = l_k cd_72 := rfl
theorem mc_73 : m_C 73 = l_k cd_73 := rfl
theorem mc_74 : m_C 74 = l_k cd_74 := rfl
theorem mc_75 : m_C 75 = l_k cd_75 := rfl
theorem mc_76 : m_C 76 = l_k cd_76 := rfl
theorem mc_77 : m_C 77 = l_k cd_77 := rfl
theorem mc_78 : m_C 78 = l_k cd_78 := rfl
theorem mc_79 : m_C 79 = l_k cd_79 := rfl
theorem mc_80 : m_C 80 = l_k cd_80 := rfl
theorem mc_81 : m_C 81 = l_k cd_81 := rfl
theorem mc_82 : m_C 82 = l_k cd_82 := rfl
theorem mc_83 : m_C 83 = l_k cd_83 := rfl
set_option maxRecDepth 100000 in
theorem cd_ok (mj : Nat) (h : mj ≤ m_N) : ∀ pc i a b x, m_C mj pc = some (i, a, b, x) → e_k mj pc i a b x := by
  match mj, h with
  | 0, _ => exact ck_use mc_0 ck_0
  | 1, _ => exact ck_use mc_1 ck_1
  | 2, _ => exact ck_use mc_2 ck_2
  | 3, _ => exact ck_use mc_3 ck_3
  | 4, _ => exact ck_use mc_4 ck_4
  | 5, _ => exact ck_use mc_5 ck_5
  | 6, _ => exact ck_use mc_6 ck_6
  | 7, _ => exact ck_use mc_7 ck_7
  | 8, _ => exact ck_use mc_8 ck_8
  | 9, _ => exact ck_use mc_9 ck_9
  | 10, _ => exact ck_use mc_10 ck_10
  | 11, _ => exact ck_use mc_11 ck_11
  | 12, _ => exact ck_use mc_12 ck_12
  | 13, _ => exact ck_use mc_13 ck_13
  | 14, _ => exact ck_use mc_14 ck_14
  | 15, _ => exact ck_use mc_15 ck_15
  | 16, _ => exact ck_use mc_16 ck_16
  | 17, _ => exact ck_use mc_17 ck_17
  | 18, _ => exact ck_use mc_18 ck_18
  | 19, _ => exact ck_use mc_19 ck_19
  | 20, _ => exact ck_use mc_20 ck_20
  | 21, _ => exact ck_use mc_21 ck_21
  | 22, _ => exact ck_use mc_22 ck_22
  | 23, _ => exact ck_use mc_23 ck_23
  | 24, _ => exact ck_use mc_24 ck_24
  | 25, _ => exact ck_use mc_25 ck_25
  | 26, _ => exact ck_use mc_26 ck_26
  | 27, _ => exact ck_use mc_27 ck_27
  | 28, _ => exact ck_use mc_28 ck_28
  | 29, _ => exact ck_use mc_29 ck_29
  | 30, _ => exact ck_use mc_30 ck_30
  | 31, _ => exact ck_use mc_31 ck_31
  | 32, _ => exact ck_use mc_32 ck_32
  | 33, _ => exact ck_use mc_33 ck_33
  | 34, _ => exact ck_use mc_34 ck_34
  | 35, _ => exact ck_use mc_35 ck_35
  | 36, _ => exact ck_use mc_36 ck_36
  | 37, _ => exact ck_use mc_37 ck_37
  | 38, _ => exact ck_use mc_38 ck_38
  | 39, _ => exact ck_use mc_39 ck_39
  | 40, _ => exact ck_use mc_40 ck_40
  | 41, _ => exact ck_use mc_41 ck_41
  | 42, _ => exact ck_use mc_42 ck_42
  | 43, _ => exact ck_use mc_43 ck_43
  | 44, _ => exact ck_use mc_44 ck_44
  | 45, _ => exact ck_use mc_45 ck_45
  | 46, _ => exact ck_use mc_46 ck_46
  | 47, _ => exact ck_use mc_47 ck_47
  | 48, _ => exact ck_use mc_48 ck_48
  | 49, _ => exact ck_use mc_49 ck_49
  | 50, _ => exact ck_use mc_50 ck_50
  | 51, _ => exact ck_use mc_51 ck_51
  | 52, _ => exact ck_use mc_52 ck_52
  | 53, _ => exact ck_use mc_53 ck_53
  | 54, _ => exact ck_use mc_54 ck_54
  | 55, _ => exact ck_use mc_55 ck_55
  | 56, _ => exact ck_use mc_56 ck_56
  | 57, _ => exact ck_use mc_57 ck_57
  | 58, _ => exact ck_use mc_58 ck_58
  | 59, _ => exact ck_use mc_59 ck_59
  | 60, _ => exact ck_use mc_60 ck_60
  | 61, _ => exact ck_use mc_61 ck_61
  | 62, _ => exact ck_use mc_62 ck_62
  | 63, _ => exact ck_use mc_63 ck_63
  | 64, _ => exact ck_use mc_64 ck_64
  | 65, _ => exact ck_use mc_65 ck_65
  | 66, _ => exact ck_use mc_66 ck_66
  | 67, _ => exact ck_use mc_67 ck_67
  | 68, _ => exact ck_use mc_68 ck_68
  | 69, _ => exact ck_use mc_69 ck_69
  | 70, _ => exact ck_use mc_70 ck_70
  | 71, _ => exact ck_use mc_71 ck_71
  | 72, _ => exact ck_use mc_72 ck_72
  | 73, _ => exact ck_use mc_73 ck_73
  | 74, _ => exact ck_use mc_74 ck_74
  | 75, _ => exact ck_use mc_75 ck_75
  | 76, _ => exact ck_use mc_76 ck_76
  | 77, _ => exact ck_use mc_77 ck_77
  | 78, _ => exact ck_use mc_78 ck_78
  | 79, _ => exact ck_use mc_79 ck_79
  | 80, _ => exact ck_use mc_80 ck_80
  | 81, _ => exact ck_use mc_81 ck_81
  | 82, _ => exact ck_use mc_82 ck_82
  | 83, _ => exact ck_use mc_83 ck_83
  | k + 84, h => exact absurd h (by show ¬ k + 84 ≤ 83; omega)
