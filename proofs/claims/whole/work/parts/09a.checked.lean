def e_kb (mi pc : Nat) (i : Instr) (a b : Nat) (x : Int32) : Bool := decide (decode (m_B mi) pc = .ok (i, i_l i b)) && (match i with
  | .iconst t => decide (Int32.ofInt t = x)
  | .bipush t => decide ((Int8.ofInt t).toInt32 = x)
  | .sipush t => decide ((Int16.ofInt t).toInt32 = x)
  | .ldc2_w t => decide (Cond.constantLong (R_o (m_o mi)) t x.toInt64 ∈ am_tb)
  | .iload_n t => decide (t.val = a)
  | .iload t => decide (t = a)
  | .aload_n t => decide (t.val = a)
  | .aload t => decide (t = a)
  | .istore_n t => decide (t.val = a ∧ a < m_L mi)
  | .istore t => decide (t = a ∧ a < m_L mi)
  | .astore_n t => decide (t.val = a ∧ a < m_L mi)
  | .astore t => decide (t = a ∧ a < m_L mi)
  | .iinc t j => decide (t = a ∧ Int32.ofInt j = x ∧ a < m_L mi)
  | .ifCond _ off => decide ((pc : Int) + off = (a : Int))
  | .if_icmp _ off => decide ((pc : Int) + off = (a : Int))
  | .goto off => decide ((pc : Int) + off = (a : Int))
  | .getfield t => decide ((m_o mi, t, a, b) ∈ F_T)
  | .putfield t => decide ((m_o mi, t, a, b) ∈ F_T ∧ ((T_o a b).2.2.2 = true → m_k mi = 2 ∧ m_o mi = a))
  | .new t => decide ((m_o mi, t, a) ∈ C_T)
  | .newarray t => decide ((newarray.typeOf t = .int ∧ a = 0) ∨ (newarray.typeOf t = .boolean ∧ a = 1))
  | .anewarray t => decide ((m_o mi, t, a) ∈ Q_T)
  | .invokespecial t => decide ((a = 999 ∧ (m_o mi, t) ∈ O_T) ∨ (¬ a = 999 ∧ (m_o mi, t, a) ∈ M_T ∧ m_k a = 2))
  | .invokevirtual t => decide ((m_o mi, t, a) ∈ M_T ∧ m_k a = 0)
  | .invokestatic t => decide ((m_o mi, t, a) ∈ M_T ∧ m_k a = 1 ∧ m_o a = m_o mi)
  | .ireturn => decide ((a = 0 ∧ m_R mi = some .int) ∨ (a = 1 ∧ m_R mi = some .boolean))
  | .lreturn => decide (m_R mi = some .long)
  | .areturn => decide (m_R mi = some (.object (R_o 2)))
  | .return_ => decide (m_R mi = none)
  | _ => true)
theorem e_kb_ok {mi pc : Nat} {i : Instr} {a b : Nat} {x : Int32} (h : e_kb mi pc i a b x = true) : e_k mi pc i a b x := by
  unfold e_kb at h
  rw [Bool.and_eq_true] at h
  obtain ⟨h1, h2⟩ := h
  refine ⟨of_decide_eq_true h1, ?_⟩
  cases i <;> first | trivial | exact of_decide_eq_true h2
theorem ck_0 : cd_0.all (fun z => e_kb 0 z.1 z.2.1 z.2.2.1 z.2.2.2.1 z.2.2.2.2) = true := by decide +kernel
theorem ck_1 : cd_1.all (fun z => e_kb 1 z.1 z.2.1 z.2.2.1 z.2.2.2.1 z.2.2.2.2) = true := by decide +kernel
theorem ck_2 : cd_2.all (fun z => e_kb 2 z.1 z.2.1 z.2.2.1 z.2.2.2.1 z.2.2.2.2) = true := by decide +kernel
theorem ck_3 : cd_3.all (fun z => e_kb 3 z.1 z.2.1 z.2.2.1 z.2.2.2.1 z.2.2.2.2) = true := by decide +kernel
theorem ck_4 : cd_4.all (fun z => e_kb 4 z.1 z.2.1 z.2.2.1 z.2.2.2.1 z.2.2.2.2) = true := by decide +kernel
theorem ck_5 : cd_5.all (fun z => e_kb 5 z.1 z.2.1 z.2.2.1 z.2.2.2.1 z.2.2.2.2) = true := by decide +kernel
theorem ck_6 : cd_6.all (fun z => e_kb 6 z.1 z.2.1 z.2.2.1 z.2.2.2.1 z.2.2.2.2) = true := by decide +kernel
theorem ck_7 : cd_7.all (fun z => e_kb 7 z.1 z.2.1 z.2.2.1 z.2.2.2.1 z.2.2.2.2) = true := by decide +kernel
theorem ck_8 : cd_8.all (fun z => e_kb 8 z.1 z.2.1 z.2.2.1 z.2.2.2.1 z.2.2.2.2) = true := by decide +kernel
theorem ck_9 : cd_9.all (fun z => e_kb 9 z.1 z.2.1 z.2.2.1 z.2.2.2.1 z.2.2.2.2) = true := by decide +kernel
theorem ck_10 : cd_10.all (fun z => e_kb 10 z.1 z.2.1 z.2.2.1 z.2.2.2.1 z.2.2.2.2) = true := by decide +kernel
theorem ck_11 : cd_11.all (fun z => e_kb 11 z.1 z.2.1 z.2.2.1 z.2.2.2.1 z.2.2.2.2) = true := by decide +kernel
theorem ck_12 : cd_12.all (fun z => e_kb 12 z.1 z.2.1 z.2.2.1 z.2.2.2.1 z.2.2.2.2) = true := by decide +kernel
theorem ck_13 : cd_13.all (fun z => e_kb 13 z.1 z.2.1 z.2.2.1 z.2.2.2.1 z.2.2.2.2) = true := by decide +kernel
theorem ck_14 : cd_14.all (fun z => e_kb 14 z.1 z.2.1 z.2.2.1 z.2.2.2.1 z.2.2.2.2) = true := by decide +kernel
theorem ck_15 : cd_15.all (fun z => e_kb 15 z.1 z.2.1 z.2.2.1 z.2.2.2.1 z.2.2.2.2) = true := by decide +kernel
theorem ck_16 : cd_16.all (fun z => e_kb 16 z.1 z.2.1 z.2.2.1 z.2.2.2.1 z.2.2.2.2) = true := by decide +kernel
theorem ck_17 : cd_17.all (fun z => e_kb 17 z.1 z.2.1 z.2.2.1 z.2.2.2.1 z.2.2.2.2) = true := by decide +kernel
theorem ck_18 : cd_18.all (fun z => e_kb 18 z.1 z.2.1 z.2.2.1 z.2.2.2.1 z.2.2.2.2) = true := by decide +kernel
theorem ck_19 : cd_19.all (fun z => e_kb 19 z.1 z.2.1 z.2.2.1 z.2.2.2.1 z.2.2.2.2) = true := by decide +kernel
theorem ck_20 : cd_20.all (fun z => e_kb 20 z.1 z.2.1 z.2.2.1 z.2.2.2.1 z.2.2.2.2) = true := by decide +kernel
theorem ck_21 : cd_21.all (fun z => e_kb 21 z.1 z.2.1 z.2.2.1 z.2.2.2.1 z.2.2.2.2) = true := by decide +kernel
theorem ck_22 : cd_22.all (fun z => e_kb 22 z.1 z.2.1 z.2.2.1 z.2.2.2.1 z.2.2.2.2) = true := by decide +kernel
theorem ck_23 : cd_23.all (fun z => e_kb 23 z.1 z.2.1 z.2.2.1 z.2.2.2.1 z.2.2.2.2) = true := by decide +kernel
theorem ck_24 : cd_24.all (fun z => e_kb 24 z.1 z.2.1 z.2.2.1 z.2.2.2.1 z.2.2.2.2) = true := by decide +kernel
theorem ck_25 : cd_25.all (fun z => e_kb 25 z.1 z.2.1 z.2.2.1 z.2.2.2.1 z.2.2.2.2) = true := by decide +kernel
theorem ck_26 : cd_26.all (fun z => e_kb 26 z.1 z.2.1 z.2.2.1 z.2.2.2.1 z.2.2.2.2) = true := by decide +kernel
theorem ck_27 : cd_27.all (fun z => e_kb 27 z.1 z.2.1 z.2.2.1 z.2.2.2.1 z.2.2.2.2) = true := by decide +kernel
theorem ck_28 : cd_28.all (fun z => e_kb 28 z.1 z.2.1 z.2.2.1 z.2.2.2.1 z.2.2.2.2) = true := by decide +kernel
theorem ck_29 : cd_29.all (fun z => e_kb 29 z.1 z.2.1 z.2.2.1 z.2.2.2.1 z.2.2.2.2) = true := by decide +kernel
theorem ck_30 : cd_30.all (fun z => e_kb 30 z.1 z.2.1 z.2.2.1 z.2.2.2.1 z.2.2.2.2) = true := by decide +kernel
theorem ck_31 : cd_31.all (fun z => e_kb 31 z.1 z.2.1 z.2.2.1 z.2.2.2.1 z.2.2.2.2) = true := by decide +kernel
theorem ck_32 : cd_32.all (fun z => e_kb 32 z.1 z.2.1 z.2.2.1 z.2.2.2.1 z.2.2.2.2) = true := by decide +kernel
theorem ck_33 : cd_33.all (fun z => e_kb 33 z.1 z.2.1 z.2.2.1 z.2.2.2.1 z.2.2.2.2) = true := by decide +kernel
theorem ck_34 : cd_34.all (fun z => e_kb 34 z.1 z.2.1 z.2.2.1 z.2.2.2.1 z.2.2.2.2) = true := by decide +kernel
theorem ck_35 : cd_35.all (fun z => e_kb 35 z.1 z.2.1 z.2.2.1 z.2.2.2.1 z.2.2.2.2) = true := by decide +kernel
theorem ck_36 : cd_36.all (fun z => e_kb 36 z.1 z.2.1 z.2.2.1 z.2.2.2.1 z.2.2.2.2) = true := by decide +kernel
theorem ck_37 : cd_37.all (fun z => e_kb 37 z.1 z.2.1 z.2.2.1 z.2.2.2.1 z.2.2.2.2) = true := by decide +kernel
theorem ck_38 : cd_38.all (fun z => e_kb 38 z.1 z.2.1 z.2.2.1 z.2.2.2.1 z.2.2.2.2) = true := by decide +kernel
theorem ck_39 : cd_39.all (fun z => e_kb 39 z.1 z.2.1 z.2.2.1 z.2.2.2.1 z.2.2.2.2) = true := by decide +kernel
theorem ck_40 : cd_40.all (fun z => e_kb 40 z.1 z.2.1 z.2.2.1 z.2.2.2.1 z.2.2.2.2) = true := by decide +kernel
theorem ck_41 : cd_41.all (fun z => e_kb 41 z.1 z.2.1 z.2.2.1 z.2.2.2.1 z.2.2.2.2) = true := by decide +kernel
theorem ck_42 : cd_42.all (fun z => e_kb 42 z.1 z.2.1 z.2.2.1 z.2.2.2.1 z.2.2.2.2) = true := by decide +kernel
theorem ck_43 : cd_43.all (fun z => e_kb 43 z.1 z.2.1 z.2.2.1 z.2.2.2.1 z.2.2.2.2) = true := by decide +kernel
theorem ck_44 : cd_44.all (fun z => e_kb 44 z.1 z.2.1 z.2.2.1 z.2.2.2.1 z.2.2.2.2) = true := by decide +kernel
theorem ck_45 : cd_45.all (fun z => e_kb 45 z.1 z.2.1 z.2.2.1 z.2.2.2.1 z.2.2.2.2) = true := by decide +kernel
theorem ck_46 : cd_46.all (fun z => e_kb 46 z.1 z.2.1 z.2.2.1 z.2.2.2.1 z.2.2.2.2) = true := by decide +kernel
theorem ck_47 : cd_47.all (fun z => e_kb 47 z.1 z.2.1 z.2.2.1 z.2.2.2.1 z.2.2.2.2) = true := by decide +kernel
theorem ck_48 : cd_48.all (fun z => e_kb 48 z.1 z.2.1 z.2.2.1 z.2.2.2.1 z.2.2.2.2) = true := by decide +kernel
theorem ck_49 : cd_49.all (fun z => e_kb 49 z.1 z.2.1 z.2.2.1 z.2.2.2.1 z.2.2.2.2) = true := by decide +kernel
theorem ck_50 : cd_50.all (fun z => e_kb 50 z.1 z.2.1 z.2.2.1 z.2.2.2.1 z.2.2.2.2) = true := by decide +kernel
theorem ck_51 : cd_51.all (fun z => e_kb 51 z.1 z.2.1 z.2.2.1 z.2.2.2.1 z.2.2.2.2) = true := by decide +kernel
theorem ck_52 : cd_52.all (fun z => e_kb 52 z.1 z.2.1 z.2.2.1 z.2.2.2.1 z.2.2.2.2) = true := by decide +kernel
theorem ck_53 : cd_53.all (fun z => e_kb 53 z.1 z.2.1 z.2.2.1 z.2.2.2.1 z.2.2.2.2) = true := by decide +kernel
theorem ck_54 : cd_54.all (fun z => e_kb 54 z.1 z.2.1 z.2.2.1 z.2.2.2.1 z.2.2.2.2) = true := by decide +kernel
theorem ck_55 : cd_55.all (fun z => e_kb 55 z.1 z.2.1 z.2.2.1 z.2.2.2.1 z.2.2.2.2) = true := by decide +kernel
theorem ck_56 : cd_56.all (fun z => e_kb 56 z.1 z.2.1 z.2.2.1 z.2.2.2.1 z.2.2.2.2) = true := by decide +kernel
theorem ck_57 : cd_57.all (fun z => e_kb 57 z.1 z.2.1 z.2.2.1 z.2.2.2.1 z.2.2.2.2) = true := by decide +kernel
theorem ck_58 : cd_58.all (fun z => e_kb 58 z.1 z.2.1 z.2.2.1 z.2.2.2.1 z.2.2.2.2) = true := by decide +kernel
theorem ck_59 : cd_59.all (fun z => e_kb 59 z.1 z.2.1 z.2.2.1 z.2.2.2.1 z.2.2.2.2) = true := by decide +kernel
theorem ck_60 : cd_60.all (fun z => e_kb 60 z.1 z.2.1 z.2.2.1 z.2.2.2.1 z.2.2.2.2) = true := by decide +kernel
theorem ck_61 : cd_61.all (fun z => e_kb 61 z.1 z.2.1 z.2.2.1 z.2.2.2.1 z.2.2.2.2) = true := by decide +kernel
theorem ck_62 : cd_62.all (fun z => e_kb 62 z.1 z.2.1 z.2.2.1 z.2.2.2.1 z.2.2.2.2) = true := by decide +kernel
theorem ck_63 : cd_63.all (fun z => e_kb 63 z.1 z.2.1 z.2.2.1 z.2.2.2.1 z.2.2.2.2) = true := by decide +kernel
theorem ck_64 : cd_64.all (fun z => e_kb 64 z.1 z.2.1 z.2.2.1 z.2.2.2.1 z.2.2.2.2) = true := by decide +kernel
theorem ck_65 : cd_65.all (fun z => e_kb 65 z.1 z.2.1 z.2.2.1 z.2.2.2.1 z.2.2.2.2) = true := by decide +kernel
theorem ck_66 : cd_66.all (fun z => e_kb 66 z.1 z.2.1 z.2.2.1 z.2.2.2.1 z.2.2.2.2) = true := by decide +kernel
theorem ck_67 : cd_67.all (fun z => e_kb 67 z.1 z.2.1 z.2.2.1 z.2.2.2.1 z.2.2.2.2) = true := by decide +kernel
theorem ck_68 : cd_68.all (fun z => e_kb 68 z.1 z.2.1 z.2.2.1 z.2.2.2.1 z.2.2.2.2) = true := by decide +kernel
theorem ck_69 : cd_69.all (fun z => e_kb 69 z.1 z.2.1 z.2.2.1 z.2.2.2.1 z.2.2.2.2) = true := by decide +kernel
theorem ck_70 : cd_70.all (fun z => e_kb 70 z.1 z.2.1 z.2.2.1 z.2.2.2.1 z.2.2.2.2) = true := by decide +kernel
theorem ck_71 : cd_71.all (fun z => e_kb 71 z.1 z.2.1 z.2.2.1 z.2.2.2.1 z.2.2.2.2) = true := by decide +kernel
theorem ck_72 : cd_72.all (fun z => e_kb 72 z.1 z.2.1 z.2.2.1 z.2.2.2.1 z.2.2.2.2) = true := by decide +kernel
theorem ck_73 : cd_73.all (fun z => e_kb 73 z.1 z.2.1 z.2.2.1 z.2.2.2.1 z.2.2.2.2) = true := by decide +kernel
theorem ck_74 : cd_74.all (fun z => e_kb 74 z.1 z.2.1 z.2.2.1 z.2.2.2.1 z.2.2.2.2) = true := by decide +kernel
theorem ck_75 : cd_75.all (fun z => e_kb 75 z.1 z.2.1 z.2.2.1 z.2.2.2.1 z.2.2.2.2) = true := by decide +kernel
theorem ck_76 : cd_76.all (fun z => e_kb 76 z.1 z.2.1 z.2.2.1 z.2.2.2.1 z.2.2.2.2) = true := by decide +kernel
theorem ck_77 : cd_77.all (fun z => e_kb 77 z.1 z.2.1 z.2.2.1 z.2.2.2.1 z.2.2.2.2) = true := by decide +kernel
theorem ck_78 : cd_78.all (fun z => e_kb 78 z.1 z.2.1 z.2.2.1 z.2.2.2.1 z.2.2.2.2) = true := by decide +kernel
theorem ck_79 : cd_79.all (fun z => e_kb 79 z.1 z.2.1 z.2.2.1 z.2.2.2.1 z.2.2.2.2) = true := by decide +kernel
theorem ck_80 : cd_80.all (fun z => e_kb 80 z.1 z.2.1 z.2.2.1 z.2.2.2.1 z.2.2.2.2) = true := by decide +kernel
theorem ck_81 : cd_81.all (fun z => e_kb 81 z.1 z.2.1 z.2.2.1 z.2.2.2.1 z.2.2.2.2) = true := by decide +kernel
theorem ck_82 : cd_82.all (fun z => e_kb 82 z.1 z.2.1 z.2.2.1 z.2.2.2.1 z.2.2.2.2) = true := by decide +kernel
theorem ck_83 : cd_83.all (fun z => e_kb 83 z.1 z.2.1 z.2.2.1 z.2.2.2.1 z.2.2.2.2) = true := by decide +kernel
