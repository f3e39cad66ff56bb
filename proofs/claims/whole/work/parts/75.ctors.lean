/-! the class: constructors of worlds and the rest -/
set_option maxHeartbeats 4000000 in
set_option maxRecDepth 100000 in
theorem m_World_init_65 {g : xG} {nx : Nat} {sh : Nat → Nat × Nat} {P : Nat → Nat → Option Nat} {I : Nat → Nat → Int32} (hw : (sh 65).1 = 9) : xMet g Y_World_init 3 15 241 [.ref 65] (66, sh, P, I) (fun r σ => r = none ∧ σ = (81, (va_up (va_up (va_up (va_up (va_up (va_up (va_up (va_up (va_up (va_up (va_up (va_up (va_up (va_up (va_up sh 66 (8, 0)) 67 (12, 1 * 100)) 68 (8, 0)) 69 (12, 8 * 4)) 70 (8, 0)) 71 (12, 1 * 5)) 72 (8, 0)) 73 (12, 5 * 6)) 74 (8, 0)) 75 (12, 3 * 6)) 76 (8, 0)) 77 (12, 1 * 6)) 78 (8, 0)) 79 (12, 2 * 8)) 80 (12, 6)), (xrp (va_up (xrp (xrp (xrp (va_up (va_up (xrp (xrp (va_up (va_up (xrp (xrp (va_up (va_up (xrp (xrp (va_up (va_up (xrp (xrp (va_up (va_up (xrp (xrp (va_up (va_up (xrp (xrp (va_up (va_up P 66 (fun _ => none)) 67 (fun _ => none)) 66 2 (some 67)) 65 0 (some 66)) 68 (fun _ => none)) 69 (fun _ => none)) 68 2 (some 69)) 65 1 (some 68)) 70 (fun _ => none)) 71 (fun _ => none)) 70 2 (some 71)) 65 2 (some 70)) 72 (fun _ => none)) 73 (fun _ => none)) 72 2 (some 73)) 65 3 (some 72)) 74 (fun _ => none)) 75 (fun _ => none)) 74 2 (some 75)) 65 4 (some 74)) 76 (fun _ => none)) 77 (fun _ => none)) 76 2 (some 77)) 65 5 (some 76)) 78 (fun _ => none)) 79 (fun _ => none)) 78 2 (some 79)) 65 6 (some 78)) 65 8 none) 80 (fun _ => none)) 65 10 (some 80)), (va_up (xup (xup (va_up (xup (xup (xup (va_up (va_up (xup (xup (xup (va_up (va_up (xup (xup (xup (va_up (va_up (xup (xup (xup (va_up (va_up (xup (xup (xup (va_up (va_up (xup (xup (xup (va_up (va_up (xup (xup (xup (va_up I 66 (fun _ => 0)) 66 3 0) 66 0 (nI 1)) 66 1 (nI 100)) 67 (fun _ => 0)) 68 (fun _ => 0)) 68 3 0) 68 0 (nI 8)) 68 1 (nI 4)) 69 (fun _ => 0)) 70 (fun _ => 0)) 70 3 0) 70 0 (nI 1)) 70 1 (nI 5)) 71 (fun _ => 0)) 72 (fun _ => 0)) 72 3 0) 72 0 (nI 5)) 72 1 (nI 6)) 73 (fun _ => 0)) 74 (fun _ => 0)) 74 3 0) 74 0 (nI 3)) 74 1 (nI 6)) 75 (fun _ => 0)) 76 (fun _ => 0)) 76 3 0) 76 0 (nI 1)) 76 1 (nI 6)) 77 (fun _ => 0)) 78 (fun _ => 0)) 78 3 0) 78 0 (nI 2)) 78 1 (nI 8)) 79 (fun _ => 0)) 65 7 0) 65 9 0) 80 (fun _ => 0)))) := by
  refine xMet.of [some (.ref 65)] (by decide +kernel) (Nat.le_of_ble_eq_true rfl) rfl ?_
  refine x_aload_n dX9_init_0 rfl ?_
  refine x_objInit dX9_init_1 OI_World_3 OI_inst OI_code (Nat.le_of_ble_eq_true rfl) (Nat.le_of_ble_eq_true rfl) ?_
  refine x_aload_n dX9_init_4 rfl ?_
  refine y_new (k2 := 14) (n2 := 237) (nx1 := 67) dX9_init_5 N_World_9 rfl (Nat.le_of_ble_eq_true rfl) (Nat.le_of_ble_eq_true rfl) ?_
  refine x_dup dX9_init_8 rfl ?_
  refine x_iconst (v := 1) dX9_init_9 (by decide) ?_
  refine x_bipush (v := 100) dX9_init_10 (by decide) ?_
  refine x_callI (k2 := 13) (n2 := 137) dX9_init_12 LI_World_11 (m_Table_init (t := 66) (nx := 67) (W := 1) (L := 100) (nx1 := 68) rfl (by decide) (by decide) (by decide) (by decide) (by decide) rfl) rfl rfl (Nat.le_of_ble_eq_true rfl) (Nat.le_of_ble_eq_true rfl) (Nat.le_of_ble_eq_true rfl) (Nat.le_of_ble_eq_true rfl) ?_
  rintro _ _ ⟨rfl, rfl⟩
  refine x_putrF dX9_init_15 F_World_14 T_9_0 rfl rfl hw rfl (fun _ => rfl) (fun _ => rfl) ?_
  refine x_aload_n dX9_init_18 rfl ?_
  refine y_new (k2 := 12) (n2 := 133) (nx1 := 69) dX9_init_19 N_World_9 rfl (Nat.le_of_ble_eq_true rfl) (Nat.le_of_ble_eq_true rfl) ?_
  refine x_dup dX9_init_22 rfl ?_
  refine x_bipush (v := 8) dX9_init_23 (by decide) ?_
  refine x_iconst (v := 4) dX9_init_25 (by decide) ?_
  refine x_callI (k2 := 11) (n2 := 101) dX9_init_26 LI_World_11 (m_Table_init (t := 68) (nx := 69) (W := 8) (L := 4) (nx1 := 70) rfl (by decide) (by decide) (by decide) (by decide) (by decide) rfl) rfl rfl (Nat.le_of_ble_eq_true rfl) (Nat.le_of_ble_eq_true rfl) (Nat.le_of_ble_eq_true rfl) (Nat.le_of_ble_eq_true rfl) ?_
  rintro _ _ ⟨rfl, rfl⟩
  refine x_putrF dX9_init_29 F_World_20 T_9_1 rfl rfl hw rfl (fun _ => rfl) (fun _ => rfl) ?_
  refine x_aload_n dX9_init_32 rfl ?_
  refine y_new (k2 := 10) (n2 := 97) (nx1 := 71) dX9_init_33 N_World_9 rfl (Nat.le_of_ble_eq_true rfl) (Nat.le_of_ble_eq_true rfl) ?_
  refine x_dup dX9_init_36 rfl ?_
  refine x_iconst (v := 1) dX9_init_37 (by decide) ?_
  refine x_iconst (v := 5) dX9_init_38 (by decide) ?_
  refine x_callI (k2 := 9) (n2 := 92) dX9_init_39 LI_World_11 (m_Table_init (t := 70) (nx := 71) (W := 1) (L := 5) (nx1 := 72) rfl (by decide) (by decide) (by decide) (by decide) (by decide) rfl) rfl rfl (Nat.le_of_ble_eq_true rfl) (Nat.le_of_ble_eq_true rfl) (Nat.le_of_ble_eq_true rfl) (Nat.le_of_ble_eq_true rfl) ?_
  rintro _ _ ⟨rfl, rfl⟩
  refine x_putrF dX9_init_42 F_World_23 T_9_2 rfl rfl hw rfl (fun _ => rfl) (fun _ => rfl) ?_
  refine x_aload_n dX9_init_45 rfl ?_
  refine y_new (k2 := 8) (n2 := 88) (nx1 := 73) dX9_init_46 N_World_9 rfl (Nat.le_of_ble_eq_true rfl) (Nat.le_of_ble_eq_true rfl) ?_
  refine x_dup dX9_init_49 rfl ?_
  refine x_iconst (v := 5) dX9_init_50 (by decide) ?_
  refine x_bipush (v := 6) dX9_init_51 (by decide) ?_
  refine x_callI (k2 := 7) (n2 := 58) dX9_init_53 LI_World_11 (m_Table_init (t := 72) (nx := 73) (W := 5) (L := 6) (nx1 := 74) rfl (by decide) (by decide) (by decide) (by decide) (by decide) rfl) rfl rfl (Nat.le_of_ble_eq_true rfl) (Nat.le_of_ble_eq_true rfl) (Nat.le_of_ble_eq_true rfl) (Nat.le_of_ble_eq_true rfl) ?_
  rintro _ _ ⟨rfl, rfl⟩
  refine x_putrF dX9_init_56 F_World_26 T_9_3 rfl rfl hw rfl (fun _ => rfl) (fun _ => rfl) ?_
  refine x_aload_n dX9_init_59 rfl ?_
  refine y_new (k2 := 6) (n2 := 54) (nx1 := 75) dX9_init_60 N_World_9 rfl (Nat.le_of_ble_eq_true rfl) (Nat.le_of_ble_eq_true rfl) ?_
  refine x_dup dX9_init_63 rfl ?_
  refine x_iconst (v := 3) dX9_init_64 (by decide) ?_
  refine x_bipush (v := 6) dX9_init_65 (by decide) ?_
  refine x_callI (k2 := 5) (n2 := 36) dX9_init_67 LI_World_11 (m_Table_init (t := 74) (nx := 75) (W := 3) (L := 6) (nx1 := 76) rfl (by decide) (by decide) (by decide) (by decide) (by decide) rfl) rfl rfl (Nat.le_of_ble_eq_true rfl) (Nat.le_of_ble_eq_true rfl) (Nat.le_of_ble_eq_true rfl) (Nat.le_of_ble_eq_true rfl) ?_
  rintro _ _ ⟨rfl, rfl⟩
  refine x_putrF dX9_init_70 F_World_29 T_9_4 rfl rfl hw rfl (fun _ => rfl) (fun _ => rfl) ?_
  refine x_aload_n dX9_init_73 rfl ?_
  refine y_new (k2 := 4) (n2 := 32) (nx1 := 77) dX9_init_74 N_World_9 rfl (Nat.le_of_ble_eq_true rfl) (Nat.le_of_ble_eq_true rfl) ?_
  refine x_dup dX9_init_77 rfl ?_
  refine x_iconst (v := 1) dX9_init_78 (by decide) ?_
  refine x_bipush (v := 6) dX9_init_79 (by decide) ?_
  refine x_callI (k2 := 3) (n2 := 26) dX9_init_81 LI_World_11 (m_Table_init (t := 76) (nx := 77) (W := 1) (L := 6) (nx1 := 78) rfl (by decide) (by decide) (by decide) (by decide) (by decide) rfl) rfl rfl (Nat.le_of_ble_eq_true rfl) (Nat.le_of_ble_eq_true rfl) (Nat.le_of_ble_eq_true rfl) (Nat.le_of_ble_eq_true rfl) ?_
  rintro _ _ ⟨rfl, rfl⟩
  refine x_putrF dX9_init_84 F_World_32 T_9_5 rfl rfl hw rfl (fun _ => rfl) (fun _ => rfl) ?_
  refine x_aload_n dX9_init_87 rfl ?_
  refine y_new (k2 := 2) (n2 := 22) (nx1 := 79) dX9_init_88 N_World_9 rfl (Nat.le_of_ble_eq_true rfl) (Nat.le_of_ble_eq_true rfl) ?_
  refine x_dup dX9_init_91 rfl ?_
  refine x_iconst (v := 2) dX9_init_92 (by decide) ?_
  refine x_bipush (v := 8) dX9_init_93 (by decide) ?_
  refine x_callI (k2 := 1) (n2 := 6) dX9_init_95 LI_World_11 (m_Table_init (t := 78) (nx := 79) (W := 2) (L := 8) (nx1 := 80) rfl (by decide) (by decide) (by decide) (by decide) (by decide) rfl) rfl rfl (Nat.le_of_ble_eq_true rfl) (Nat.le_of_ble_eq_true rfl) (Nat.le_of_ble_eq_true rfl) (Nat.le_of_ble_eq_true rfl) ?_
  rintro _ _ ⟨rfl, rfl⟩
  refine x_putrF dX9_init_98 F_World_35 T_9_6 rfl rfl hw rfl (fun _ => rfl) (fun _ => rfl) ?_
  refine x_aload_n dX9_init_101 rfl ?_
  refine x_iconst (v := 0) dX9_init_102 (by decide) ?_
  refine x_puti dX9_init_103 F_World_38 T_9_7 hw rfl rfl rfl ?_
  refine x_aload_n dX9_init_106 rfl ?_
  refine x_aconst_null dX9_init_107 ?_
  refine x_putrN dX9_init_108 F_World_42 T_9_8 hw rfl rfl rfl ?_
  refine x_aload_n dX9_init_111 rfl ?_
  refine x_iconst (v := 0) dX9_init_112 (by decide) ?_
  refine x_puti dX9_init_113 F_World_46 T_9_9 hw rfl rfl rfl ?_
  refine x_aload_n dX9_init_116 rfl ?_
  refine x_bipush (v := 6) dX9_init_117 (by decide) ?_
  refine y_newI (k2 := 0) (n2 := 0) (nx1 := 81) (len := 6) dX9_init_119 rfl rfl (Nat.le_of_ble_eq_true rfl) (Nat.le_of_ble_eq_true rfl) (Nat.le_of_ble_eq_true rfl) ?_
  refine x_putrF dX9_init_121 F_World_49 T_9_10 rfl rfl hw rfl (fun _ => rfl) (fun _ => rfl) ?_
  refine x_return dX9_init_124 rfl ?_
  exact ⟨rfl, rfl⟩

set_option maxHeartbeats 4000000 in
set_option maxRecDepth 100000 in
theorem m_World_init_81 {g : xG} {nx : Nat} {sh : Nat → Nat × Nat} {P : Nat → Nat → Option Nat} {I : Nat → Nat → Int32} (hw : (sh 81).1 = 9) : xMet g Y_World_init 3 15 241 [.ref 81] (82, sh, P, I) (fun r σ => r = none ∧ σ = (97, (va_up (va_up (va_up (va_up (va_up (va_up (va_up (va_up (va_up (va_up (va_up (va_up (va_up (va_up (va_up sh 82 (8, 0)) 83 (12, 1 * 100)) 84 (8, 0)) 85 (12, 8 * 4)) 86 (8, 0)) 87 (12, 1 * 5)) 88 (8, 0)) 89 (12, 5 * 6)) 90 (8, 0)) 91 (12, 3 * 6)) 92 (8, 0)) 93 (12, 1 * 6)) 94 (8, 0)) 95 (12, 2 * 8)) 96 (12, 6)), (xrp (va_up (xrp (xrp (xrp (va_up (va_up (xrp (xrp (va_up (va_up (xrp (xrp (va_up (va_up (xrp (xrp (va_up (va_up (xrp (xrp (va_up (va_up (xrp (xrp (va_up (va_up (xrp (xrp (va_up (va_up P 82 (fun _ => none)) 83 (fun _ => none)) 82 2 (some 83)) 81 0 (some 82)) 84 (fun _ => none)) 85 (fun _ => none)) 84 2 (some 85)) 81 1 (some 84)) 86 (fun _ => none)) 87 (fun _ => none)) 86 2 (some 87)) 81 2 (some 86)) 88 (fun _ => none)) 89 (fun _ => none)) 88 2 (some 89)) 81 3 (some 88)) 90 (fun _ => none)) 91 (fun _ => none)) 90 2 (some 91)) 81 4 (some 90)) 92 (fun _ => none)) 93 (fun _ => none)) 92 2 (some 93)) 81 5 (some 92)) 94 (fun _ => none)) 95 (fun _ => none)) 94 2 (some 95)) 81 6 (some 94)) 81 8 none) 96 (fun _ => none)) 81 10 (some 96)), (va_up (xup (xup (va_up (xup (xup (xup (va_up (va_up (xup (xup (xup (va_up (va_up (xup (xup (xup (va_up (va_up (xup (xup (xup (va_up (va_up (xup (xup (xup (va_up (va_up (xup (xup (xup (va_up (va_up (xup (xup (xup (va_up I 82 (fun _ => 0)) 82 3 0) 82 0 (nI 1)) 82 1 (nI 100)) 83 (fun _ => 0)) 84 (fun _ => 0)) 84 3 0) 84 0 (nI 8)) 84 1 (nI 4)) 85 (fun _ => 0)) 86 (fun _ => 0)) 86 3 0) 86 0 (nI 1)) 86 1 (nI 5)) 87 (fun _ => 0)) 88 (fun _ => 0)) 88 3 0) 88 0 (nI 5)) 88 1 (nI 6)) 89 (fun _ => 0)) 90 (fun _ => 0)) 90 3 0) 90 0 (nI 3)) 90 1 (nI 6)) 91 (fun _ => 0)) 92 (fun _ => 0)) 92 3 0) 92 0 (nI 1)) 92 1 (nI 6)) 93 (fun _ => 0)) 94 (fun _ => 0)) 94 3 0) 94 0 (nI 2)) 94 1 (nI 8)) 95 (fun _ => 0)) 81 7 0) 81 9 0) 96 (fun _ => 0)))) := by
  refine xMet.of [some (.ref 81)] (by decide +kernel) (Nat.le_of_ble_eq_true rfl) rfl ?_
  refine x_aload_n dX9_init_0 rfl ?_
  refine x_objInit dX9_init_1 OI_World_3 OI_inst OI_code (Nat.le_of_ble_eq_true rfl) (Nat.le_of_ble_eq_true rfl) ?_
  refine x_aload_n dX9_init_4 rfl ?_
  refine y_new (k2 := 14) (n2 := 237) (nx1 := 83) dX9_init_5 N_World_9 rfl (Nat.le_of_ble_eq_true rfl) (Nat.le_of_ble_eq_true rfl) ?_
  refine x_dup dX9_init_8 rfl ?_
  refine x_iconst (v := 1) dX9_init_9 (by decide) ?_
  refine x_bipush (v := 100) dX9_init_10 (by decide) ?_
  refine x_callI (k2 := 13) (n2 := 137) dX9_init_12 LI_World_11 (m_Table_init (t := 82) (nx := 83) (W := 1) (L := 100) (nx1 := 84) rfl (by decide) (by decide) (by decide) (by decide) (by decide) rfl) rfl rfl (Nat.le_of_ble_eq_true rfl) (Nat.le_of_ble_eq_true rfl) (Nat.le_of_ble_eq_true rfl) (Nat.le_of_ble_eq_true rfl) ?_
  rintro _ _ ⟨rfl, rfl⟩
  refine x_putrF dX9_init_15 F_World_14 T_9_0 rfl rfl hw rfl (fun _ => rfl) (fun _ => rfl) ?_
  refine x_aload_n dX9_init_18 rfl ?_
  refine y_new (k2 := 12) (n2 := 133) (nx1 := 85) dX9_init_19 N_World_9 rfl (Nat.le_of_ble_eq_true rfl) (Nat.le_of_ble_eq_true rfl) ?_
  refine x_dup dX9_init_22 rfl ?_
  refine x_bipush (v := 8) dX9_init_23 (by decide) ?_
  refine x_iconst (v := 4) dX9_init_25 (by decide) ?_
  refine x_callI (k2 := 11) (n2 := 101) dX9_init_26 LI_World_11 (m_Table_init (t := 84) (nx := 85) (W := 8) (L := 4) (nx1 := 86) rfl (by decide) (by decide) (by decide) (by decide) (by decide) rfl) rfl rfl (Nat.le_of_ble_eq_true rfl) (Nat.le_of_ble_eq_true rfl) (Nat.le_of_ble_eq_true rfl) (Nat.le_of_ble_eq_true rfl) ?_
  rintro _ _ ⟨rfl, rfl⟩
  refine x_putrF dX9_init_29 F_World_20 T_9_1 rfl rfl hw rfl (fun _ => rfl) (fun _ => rfl) ?_
  refine x_aload_n dX9_init_32 rfl ?_
  refine y_new (k2 := 10) (n2 := 97) (nx1 := 87) dX9_init_33 N_World_9 rfl (Nat.le_of_ble_eq_true rfl) (Nat.le_of_ble_eq_true rfl) ?_
  refine x_dup dX9_init_36 rfl ?_
  refine x_iconst (v := 1) dX9_init_37 (by decide) ?_
  refine x_iconst (v := 5) dX9_init_38 (by decide) ?_
  refine x_callI (k2 := 9) (n2 := 92) dX9_init_39 LI_World_11 (m_Table_init (t := 86) (nx := 87) (W := 1) (L := 5) (nx1 := 88) rfl (by decide) (by decide) (by decide) (by decide) (by decide) rfl) rfl rfl (Nat.le_of_ble_eq_true rfl) (Nat.le_of_ble_eq_true rfl) (Nat.le_of_ble_eq_true rfl) (Nat.le_of_ble_eq_true rfl) ?_
  rintro _ _ ⟨rfl, rfl⟩
  refine x_putrF dX9_init_42 F_World_23 T_9_2 rfl rfl hw rfl (fun _ => rfl) (fun _ => rfl) ?_
  refine x_aload_n dX9_init_45 rfl ?_
  refine y_new (k2 := 8) (n2 := 88) (nx1 := 89) dX9_init_46 N_World_9 rfl (Nat.le_of_ble_eq_true rfl) (Nat.le_of_ble_eq_true rfl) ?_
  refine x_dup dX9_init_49 rfl ?_
  refine x_iconst (v := 5) dX9_init_50 (by decide) ?_
  refine x_bipush (v := 6) dX9_init_51 (by decide) ?_
  refine x_callI (k2 := 7) (n2 := 58) dX9_init_53 LI_World_11 (m_Table_init (t := 88) (nx := 89) (W := 5) (L := 6) (nx1 := 90) rfl (by decide) (by decide) (by decide) (by decide) (by decide) rfl) rfl rfl (Nat.le_of_ble_eq_true rfl) (Nat.le_of_ble_eq_true rfl) (Nat.le_of_ble_eq_true rfl) (Nat.le_of_ble_eq_true rfl) ?_
  rintro _ _ ⟨rfl, rfl⟩
  refine x_putrF dX9_init_56 F_World_26 T_9_3 rfl rfl hw rfl (fun _ => rfl) (fun _ => rfl) ?_
  refine x_aload_n dX9_init_59 rfl ?_
  refine y_new (k2 := 6) (n2 := 54) (nx1 := 91) dX9_init_60 N_World_9 rfl (Nat.le_of_ble_eq_true rfl) (Nat.le_of_ble_eq_true rfl) ?_
  refine x_dup dX9_init_63 rfl ?_
  refine x_iconst (v := 3) dX9_init_64 (by decide) ?_
  refine x_bipush (v := 6) dX9_init_65 (by decide) ?_
  refine x_callI (k2 := 5) (n2 := 36) dX9_init_67 LI_World_11 (m_Table_init (t := 90) (nx := 91) (W := 3) (L := 6) (nx1 := 92) rfl (by decide) (by decide) (by decide) (by decide) (by decide) rfl) rfl rfl (Nat.le_of_ble_eq_true rfl) (Nat.le_of_ble_eq_true rfl) (Nat.le_of_ble_eq_true rfl) (Nat.le_of_ble_eq_true rfl) ?_
  rintro _ _ ⟨rfl, rfl⟩
  refine x_putrF dX9_init_70 F_World_29 T_9_4 rfl rfl hw rfl (fun _ => rfl) (fun _ => rfl) ?_
  refine x_aload_n dX9_init_73 rfl ?_
  refine y_new (k2 := 4) (n2 := 32) (nx1 := 93) dX9_init_74 N_World_9 rfl (Nat.le_of_ble_eq_true rfl) (Nat.le_of_ble_eq_true rfl) ?_
  refine x_dup dX9_init_77 rfl ?_
  refine x_iconst (v := 1) dX9_init_78 (by decide) ?_
  refine x_bipush (v := 6) dX9_init_79 (by decide) ?_
  refine x_callI (k2 := 3) (n2 := 26) dX9_init_81 LI_World_11 (m_Table_init (t := 92) (nx := 93) (W := 1) (L := 6) (nx1 := 94) rfl (by decide) (by decide) (by decide) (by decide) (by decide) rfl) rfl rfl (Nat.le_of_ble_eq_true rfl) (Nat.le_of_ble_eq_true rfl) (Nat.le_of_ble_eq_true rfl) (Nat.le_of_ble_eq_true rfl) ?_
  rintro _ _ ⟨rfl, rfl⟩
  refine x_putrF dX9_init_84 F_World_32 T_9_5 rfl rfl hw rfl (fun _ => rfl) (fun _ => rfl) ?_
  refine x_aload_n dX9_init_87 rfl ?_
  refine y_new (k2 := 2) (n2 := 22) (nx1 := 95) dX9_init_88 N_World_9 rfl (Nat.le_of_ble_eq_true rfl) (Nat.le_of_ble_eq_true rfl) ?_
  refine x_dup dX9_init_91 rfl ?_
  refine x_iconst (v := 2) dX9_init_92 (by decide) ?_
  refine x_bipush (v := 8) dX9_init_93 (by decide) ?_
  refine x_callI (k2 := 1) (n2 := 6) dX9_init_95 LI_World_11 (m_Table_init (t := 94) (nx := 95) (W := 2) (L := 8) (nx1 := 96) rfl (by decide) (by decide) (by decide) (by decide) (by decide) rfl) rfl rfl (Nat.le_of_ble_eq_true rfl) (Nat.le_of_ble_eq_true rfl) (Nat.le_of_ble_eq_true rfl) (Nat.le_of_ble_eq_true rfl) ?_
  rintro _ _ ⟨rfl, rfl⟩
  refine x_putrF dX9_init_98 F_World_35 T_9_6 rfl rfl hw rfl (fun _ => rfl) (fun _ => rfl) ?_
  refine x_aload_n dX9_init_101 rfl ?_
  refine x_iconst (v := 0) dX9_init_102 (by decide) ?_
  refine x_puti dX9_init_103 F_World_38 T_9_7 hw rfl rfl rfl ?_
  refine x_aload_n dX9_init_106 rfl ?_
  refine x_aconst_null dX9_init_107 ?_
  refine x_putrN dX9_init_108 F_World_42 T_9_8 hw rfl rfl rfl ?_
  refine x_aload_n dX9_init_111 rfl ?_
  refine x_iconst (v := 0) dX9_init_112 (by decide) ?_
  refine x_puti dX9_init_113 F_World_46 T_9_9 hw rfl rfl rfl ?_
  refine x_aload_n dX9_init_116 rfl ?_
  refine x_bipush (v := 6) dX9_init_117 (by decide) ?_
  refine y_newI (k2 := 0) (n2 := 0) (nx1 := 97) (len := 6) dX9_init_119 rfl rfl (Nat.le_of_ble_eq_true rfl) (Nat.le_of_ble_eq_true rfl) (Nat.le_of_ble_eq_true rfl) ?_
  refine x_putrF dX9_init_121 F_World_49 T_9_10 rfl rfl hw rfl (fun _ => rfl) (fun _ => rfl) ?_
  refine x_return dX9_init_124 rfl ?_
  exact ⟨rfl, rfl⟩

set_option maxHeartbeats 4000000 in
set_option maxRecDepth 100000 in
theorem m_Reader_init {g : xG} {nx : Nat} {sh : Nat → Nat × Nat} {P : Nat → Nat → Option Nat} {I : Nat → Nat → Int32} (hw : (sh 97).1 = 6) : xMet g Y_Reader_init 1 2 200 [.ref 97, .ref 66] (98, sh, P, I) (fun r σ => r = none ∧ σ = (100, (va_up (va_up sh 98 (12, 100)) 99 (12, 100)), (xrp (xrp (va_up (xrp (va_up P 98 (fun _ => none)) 97 1 (some 98)) 99 (fun _ => none)) 97 4 (some 99)) 97 0 (some 66)), (xup (xup (xup (va_up (xup (xup (va_up I 98 (fun _ => 0)) 97 2 0) 97 3 0) 99 (fun _ => 0)) 97 5 0) 97 6 0) 97 7 0))) := by
  refine xMet.of [some (.ref 97), some (.ref 66)] (by decide +kernel) (Nat.le_of_ble_eq_true rfl) rfl ?_
  refine x_aload_n dX6_init_0 rfl ?_
  refine x_objInit dX6_init_1 OI_Reader_3 OI_inst OI_code (Nat.le_of_ble_eq_true rfl) (Nat.le_of_ble_eq_true rfl) ?_
  refine x_aload_n dX6_init_4 rfl ?_
  refine x_bipush (v := 100) dX6_init_5 (by decide) ?_
  refine y_newI (k2 := 1) (n2 := 100) (nx1 := 99) (len := 100) dX6_init_7 rfl rfl (Nat.le_of_ble_eq_true rfl) (Nat.le_of_ble_eq_true rfl) (Nat.le_of_ble_eq_true rfl) ?_
  refine x_putrF dX6_init_9 F_Reader_9 T_6_1 rfl rfl hw rfl (fun _ => rfl) (fun _ => rfl) ?_
  refine x_aload_n dX6_init_12 rfl ?_
  refine x_iconst (v := 0) dX6_init_13 (by decide) ?_
  refine x_puti dX6_init_14 F_Reader_15 T_6_2 hw rfl rfl rfl ?_
  refine x_aload_n dX6_init_17 rfl ?_
  refine x_iconst (v := 0) dX6_init_18 (by decide) ?_
  refine x_puti dX6_init_19 F_Reader_19 T_6_3 hw rfl rfl rfl ?_
  refine x_aload_n dX6_init_22 rfl ?_
  refine x_bipush (v := 100) dX6_init_23 (by decide) ?_
  refine y_newI (k2 := 0) (n2 := 0) (nx1 := 100) (len := 100) dX6_init_25 rfl rfl (Nat.le_of_ble_eq_true rfl) (Nat.le_of_ble_eq_true rfl) (Nat.le_of_ble_eq_true rfl) ?_
  refine x_putrF dX6_init_27 F_Reader_22 T_6_4 rfl rfl hw rfl (fun _ => rfl) (fun _ => rfl) ?_
  refine x_aload_n dX6_init_30 rfl ?_
  refine x_iconst (v := 0) dX6_init_31 (by decide) ?_
  refine x_puti dX6_init_32 F_Reader_25 T_6_5 hw rfl rfl rfl ?_
  refine x_aload_n dX6_init_35 rfl ?_
  refine x_iconst (v := 0) dX6_init_36 (by decide) ?_
  refine x_puti dX6_init_37 F_Reader_28 T_6_6 hw rfl rfl rfl ?_
  refine x_aload_n dX6_init_40 rfl ?_
  refine x_iconst (v := 0) dX6_init_41 (by decide) ?_
  refine x_puti dX6_init_42 F_Reader_31 T_6_7 hw rfl rfl rfl ?_
  refine x_aload_n dX6_init_45 rfl ?_
  refine x_aload_n dX6_init_46 rfl ?_
  refine x_putrF dX6_init_47 F_Reader_34 T_6_0 rfl rfl hw rfl (fun _ => rfl) (fun _ => rfl) ?_
  refine x_return dX6_init_50 rfl ?_
  exact ⟨rfl, rfl⟩

set_option maxHeartbeats 4000000 in
set_option maxRecDepth 100000 in
theorem m_Guesses_init {g : xG} {nx : Nat} {sh : Nat → Nat × Nat} {P : Nat → Nat → Option Nat} {I : Nat → Nat → Int32} (hw : (sh 100).1 = 3) : xMet g Y_Guesses_init 3 8 147 [.ref 100, .ref 65] (101, sh, P, I) (fun r σ => r = none ∧ σ = (109, (va_up (va_up (va_up (va_up (va_up (va_up (va_up (va_up sh 101 (7, 0)) 102 (12, 4)) 103 (12, 4)) 104 (12, 4)) 105 (12, 40)) 106 (12, 4)) 107 (12, 40)) 108 (12, 48)), (xrp (xrp (va_up (xrp (va_up (xrp (va_up (xrp (va_up (xrp (xrp (va_up (xrp (va_up (xrp (va_up (va_up P 101 (fun _ => none)) 102 (fun _ => none)) 101 0 (some 102)) 103 (fun _ => none)) 101 1 (some 103)) 104 (fun _ => none)) 101 2 (some 104)) 100 1 (some 101)) 105 (fun _ => none)) 100 2 (some 105)) 106 (fun _ => none)) 100 3 (some 106)) 107 (fun _ => none)) 100 5 (some 107)) 108 (fun _ => none)) 100 6 (some 108)) 100 0 (some 65)), (va_up (va_up (xup (va_up (va_up (va_up (va_up (va_up (va_up I 101 (fun _ => 0)) 102 (fun _ => 0)) 103 (fun _ => 0)) 104 (fun _ => 0)) 105 (fun _ => 0)) 106 (fun _ => 0)) 100 4 0) 107 (fun _ => 0)) 108 (fun _ => 0)))) := by
  refine xMet.of [some (.ref 100), some (.ref 65)] (by decide +kernel) (Nat.le_of_ble_eq_true rfl) rfl ?_
  refine x_aload_n dX3_init_0 rfl ?_
  refine x_objInit dX3_init_1 OI_Guesses_3 OI_inst OI_code (Nat.le_of_ble_eq_true rfl) (Nat.le_of_ble_eq_true rfl) ?_
  refine x_aload_n dX3_init_4 rfl ?_
  refine y_new (k2 := 7) (n2 := 144) (nx1 := 102) dX3_init_5 N_Guesses_9 rfl (Nat.le_of_ble_eq_true rfl) (Nat.le_of_ble_eq_true rfl) ?_
  refine x_dup dX3_init_8 rfl ?_
  refine x_iconst (v := 4) dX3_init_9 (by decide) ?_
  refine x_callI (k2 := 4) (n2 := 132) dX3_init_10 LI_Guesses_11 (m_Rows_init (t := 101) (nx := 102) (W := 4) (nx1 := 103) (nx2 := 104) (nx3 := 105) rfl (by decide) (by decide) rfl rfl rfl) rfl rfl (Nat.le_of_ble_eq_true rfl) (Nat.le_of_ble_eq_true rfl) (Nat.le_of_ble_eq_true rfl) (Nat.le_of_ble_eq_true rfl) ?_
  rintro _ _ ⟨rfl, rfl⟩
  refine x_putrF dX3_init_13 F_Guesses_14 T_3_1 rfl rfl hw rfl (fun _ => rfl) (fun _ => rfl) ?_
  refine x_aload_n dX3_init_16 rfl ?_
  refine x_bipush (v := 40) dX3_init_17 (by decide) ?_
  refine y_newI (k2 := 3) (n2 := 92) (nx1 := 106) (len := 40) dX3_init_19 rfl rfl (Nat.le_of_ble_eq_true rfl) (Nat.le_of_ble_eq_true rfl) (Nat.le_of_ble_eq_true rfl) ?_
  refine x_putrF dX3_init_21 F_Guesses_20 T_3_2 rfl rfl hw rfl (fun _ => rfl) (fun _ => rfl) ?_
  refine x_aload_n dX3_init_24 rfl ?_
  refine x_iconst (v := 4) dX3_init_25 (by decide) ?_
  refine y_newI (k2 := 2) (n2 := 88) (nx1 := 107) (len := 4) dX3_init_26 rfl rfl (Nat.le_of_ble_eq_true rfl) (Nat.le_of_ble_eq_true rfl) (Nat.le_of_ble_eq_true rfl) ?_
  refine x_putrF dX3_init_28 F_Guesses_24 T_3_3 rfl rfl hw rfl (fun _ => rfl) (fun _ => rfl) ?_
  refine x_aload_n dX3_init_31 rfl ?_
  refine x_iconst (v := 0) dX3_init_32 (by decide) ?_
  refine x_puti dX3_init_33 F_Guesses_27 T_3_4 hw rfl rfl rfl ?_
  refine x_aload_n dX3_init_36 rfl ?_
  refine x_bipush (v := 40) dX3_init_37 (by decide) ?_
  refine y_newI (k2 := 1) (n2 := 48) (nx1 := 108) (len := 40) dX3_init_39 rfl rfl (Nat.le_of_ble_eq_true rfl) (Nat.le_of_ble_eq_true rfl) (Nat.le_of_ble_eq_true rfl) ?_
  refine x_putrF dX3_init_41 F_Guesses_31 T_3_5 rfl rfl hw rfl (fun _ => rfl) (fun _ => rfl) ?_
  refine x_aload_n dX3_init_44 rfl ?_
  refine x_bipush (v := 48) dX3_init_45 (by decide) ?_
  refine y_newI (k2 := 0) (n2 := 0) (nx1 := 109) (len := 48) dX3_init_47 rfl rfl (Nat.le_of_ble_eq_true rfl) (Nat.le_of_ble_eq_true rfl) (Nat.le_of_ble_eq_true rfl) ?_
  refine x_putrF dX3_init_49 F_Guesses_34 T_3_6 rfl rfl hw rfl (fun _ => rfl) (fun _ => rfl) ?_
  refine x_aload_n dX3_init_52 rfl ?_
  refine x_aload_n dX3_init_53 rfl ?_
  refine x_putrF dX3_init_54 F_Guesses_37 T_3_0 rfl rfl hw rfl (fun _ => rfl) (fun _ => rfl) ?_
  refine x_return dX3_init_57 rfl ?_
  exact ⟨rfl, rfl⟩

set_option maxHeartbeats 4000000 in
set_option maxRecDepth 100000 in
theorem m_Payer_init {g : xG} {nx : Nat} {sh : Nat → Nat × Nat} {P : Nat → Nat → Option Nat} {I : Nat → Nat → Int32} (hw : (sh 109).1 = 5) : xMet g Y_Payer_init 3 8 127 [.ref 109, .ref 65] (110, sh, P, I) (fun r σ => r = none ∧ σ = (118, (va_up (va_up (va_up (va_up (va_up (va_up (va_up (va_up sh 110 (12, 4)) 111 (12, 4)) 112 (7, 0)) 113 (12, 4)) 114 (12, 4)) 115 (12, 4)) 116 (12, 4)) 117 (13, 100)), (xrp (xrp (va_up (xrp (va_up (xrp (xrp (va_up (xrp (va_up (xrp (va_up (va_up (xrp (va_up (xrp (va_up P 110 (fun _ => none)) 109 1 (some 110)) 111 (fun _ => none)) 109 2 (some 111)) 112 (fun _ => none)) 113 (fun _ => none)) 112 0 (some 113)) 114 (fun _ => none)) 112 1 (some 114)) 115 (fun _ => none)) 112 2 (some 115)) 109 3 (some 112)) 116 (fun _ => none)) 109 4 (some 116)) 117 (fun _ => none)) 109 5 (some 117)) 109 0 (some 65)), (va_up (va_up (va_up (va_up (va_up (va_up (va_up (va_up I 110 (fun _ => 0)) 111 (fun _ => 0)) 112 (fun _ => 0)) 113 (fun _ => 0)) 114 (fun _ => 0)) 115 (fun _ => 0)) 116 (fun _ => 0)) 117 (fun _ => 0)))) := by
  refine xMet.of [some (.ref 109), some (.ref 65)] (by decide +kernel) (Nat.le_of_ble_eq_true rfl) rfl ?_
  refine x_aload_n dX5_init_0 rfl ?_
  refine x_objInit dX5_init_1 OI_Payer_3 OI_inst OI_code (Nat.le_of_ble_eq_true rfl) (Nat.le_of_ble_eq_true rfl) ?_
  refine x_aload_n dX5_init_4 rfl ?_
  refine x_iconst (v := 4) dX5_init_5 (by decide) ?_
  refine y_newI (k2 := 7) (n2 := 123) (nx1 := 111) (len := 4) dX5_init_6 rfl rfl (Nat.le_of_ble_eq_true rfl) (Nat.le_of_ble_eq_true rfl) (Nat.le_of_ble_eq_true rfl) ?_
  refine x_putrF dX5_init_8 F_Payer_9 T_5_1 rfl rfl hw rfl (fun _ => rfl) (fun _ => rfl) ?_
  refine x_aload_n dX5_init_11 rfl ?_
  refine x_iconst (v := 4) dX5_init_12 (by decide) ?_
  refine y_newI (k2 := 6) (n2 := 119) (nx1 := 112) (len := 4) dX5_init_13 rfl rfl (Nat.le_of_ble_eq_true rfl) (Nat.le_of_ble_eq_true rfl) (Nat.le_of_ble_eq_true rfl) ?_
  refine x_putrF dX5_init_15 F_Payer_15 T_5_2 rfl rfl hw rfl (fun _ => rfl) (fun _ => rfl) ?_
  refine x_aload_n dX5_init_18 rfl ?_
  refine y_new (k2 := 5) (n2 := 116) (nx1 := 113) dX5_init_19 N_Payer_18 rfl (Nat.le_of_ble_eq_true rfl) (Nat.le_of_ble_eq_true rfl) ?_
  refine x_dup dX5_init_22 rfl ?_
  refine x_iconst (v := 4) dX5_init_23 (by decide) ?_
  refine x_callI (k2 := 2) (n2 := 104) dX5_init_24 LI_Payer_20 (m_Rows_init (t := 112) (nx := 113) (W := 4) (nx1 := 114) (nx2 := 115) (nx3 := 116) rfl (by decide) (by decide) rfl rfl rfl) rfl rfl (Nat.le_of_ble_eq_true rfl) (Nat.le_of_ble_eq_true rfl) (Nat.le_of_ble_eq_true rfl) (Nat.le_of_ble_eq_true rfl) ?_
  rintro _ _ ⟨rfl, rfl⟩
  refine x_putrF dX5_init_27 F_Payer_23 T_5_3 rfl rfl hw rfl (fun _ => rfl) (fun _ => rfl) ?_
  refine x_aload_n dX5_init_30 rfl ?_
  refine x_iconst (v := 4) dX5_init_31 (by decide) ?_
  refine y_newI (k2 := 1) (n2 := 100) (nx1 := 117) (len := 4) dX5_init_32 rfl rfl (Nat.le_of_ble_eq_true rfl) (Nat.le_of_ble_eq_true rfl) (Nat.le_of_ble_eq_true rfl) ?_
  refine x_putrF dX5_init_34 F_Payer_27 T_5_4 rfl rfl hw rfl (fun _ => rfl) (fun _ => rfl) ?_
  refine x_aload_n dX5_init_37 rfl ?_
  refine x_bipush (v := 100) dX5_init_38 (by decide) ?_
  refine y_newZ (k2 := 0) (n2 := 0) (nx1 := 118) (len := 100) dX5_init_40 rfl rfl (Nat.le_of_ble_eq_true rfl) (Nat.le_of_ble_eq_true rfl) (Nat.le_of_ble_eq_true rfl) ?_
  refine x_putrF dX5_init_42 F_Payer_30 T_5_5 rfl rfl hw rfl (fun _ => rfl) (fun _ => rfl) ?_
  refine x_aload_n dX5_init_45 rfl ?_
  refine x_aload_n dX5_init_46 rfl ?_
  refine x_putrF dX5_init_47 F_Payer_34 T_5_0 rfl rfl hw rfl (fun _ => rfl) (fun _ => rfl) ?_
  refine x_return dX5_init_50 rfl ?_
  exact ⟨rfl, rfl⟩

set_option maxHeartbeats 4000000 in
set_option maxRecDepth 100000 in
theorem m_Basket_init {g : xG} {nx : Nat} {sh : Nat → Nat × Nat} {P : Nat → Nat → Option Nat} {I : Nat → Nat → Int32} (hw : (sh 118).1 = 1) : xMet g Y_Basket_init 3 6 28 [.ref 118, .ref 70] (119, sh, P, I) (fun r σ => r = none ∧ σ = (125, (va_up (va_up (va_up (va_up (va_up (va_up sh 119 (7, 0)) 120 (12, 5)) 121 (12, 5)) 122 (12, 5)) 123 (12, 5)) 124 (12, 5)), (xrp (xrp (va_up (xrp (va_up (xrp (xrp (va_up (xrp (va_up (xrp (va_up (va_up P 119 (fun _ => none)) 120 (fun _ => none)) 119 0 (some 120)) 121 (fun _ => none)) 119 1 (some 121)) 122 (fun _ => none)) 119 2 (some 122)) 118 1 (some 119)) 123 (fun _ => none)) 118 2 (some 123)) 124 (fun _ => none)) 118 3 (some 124)) 118 0 (some 70)), (va_up (va_up (va_up (va_up (va_up (va_up I 119 (fun _ => 0)) 120 (fun _ => 0)) 121 (fun _ => 0)) 122 (fun _ => 0)) 123 (fun _ => 0)) 124 (fun _ => 0)))) := by
  refine xMet.of [some (.ref 118), some (.ref 70)] (by decide +kernel) (Nat.le_of_ble_eq_true rfl) rfl ?_
  refine x_aload_n dX1_init_0 rfl ?_
  refine x_objInit dX1_init_1 OI_Basket_3 OI_inst OI_code (Nat.le_of_ble_eq_true rfl) (Nat.le_of_ble_eq_true rfl) ?_
  refine x_aload_n dX1_init_4 rfl ?_
  refine y_new (k2 := 5) (n2 := 25) (nx1 := 120) dX1_init_5 N_Basket_9 rfl (Nat.le_of_ble_eq_true rfl) (Nat.le_of_ble_eq_true rfl) ?_
  refine x_dup dX1_init_8 rfl ?_
  refine x_iconst (v := 5) dX1_init_9 (by decide) ?_
  refine x_callI (k2 := 2) (n2 := 10) dX1_init_10 LI_Basket_11 (m_Rows_init (t := 119) (nx := 120) (W := 5) (nx1 := 121) (nx2 := 122) (nx3 := 123) rfl (by decide) (by decide) rfl rfl rfl) rfl rfl (Nat.le_of_ble_eq_true rfl) (Nat.le_of_ble_eq_true rfl) (Nat.le_of_ble_eq_true rfl) (Nat.le_of_ble_eq_true rfl) ?_
  rintro _ _ ⟨rfl, rfl⟩
  refine x_putrF dX1_init_13 F_Basket_14 T_1_1 rfl rfl hw rfl (fun _ => rfl) (fun _ => rfl) ?_
  refine x_aload_n dX1_init_16 rfl ?_
  refine x_iconst (v := 5) dX1_init_17 (by decide) ?_
  refine y_newI (k2 := 1) (n2 := 5) (nx1 := 124) (len := 5) dX1_init_18 rfl rfl (Nat.le_of_ble_eq_true rfl) (Nat.le_of_ble_eq_true rfl) (Nat.le_of_ble_eq_true rfl) ?_
  refine x_putrF dX1_init_20 F_Basket_20 T_1_2 rfl rfl hw rfl (fun _ => rfl) (fun _ => rfl) ?_
  refine x_aload_n dX1_init_23 rfl ?_
  refine x_iconst (v := 5) dX1_init_24 (by decide) ?_
  refine y_newI (k2 := 0) (n2 := 0) (nx1 := 125) (len := 5) dX1_init_25 rfl rfl (Nat.le_of_ble_eq_true rfl) (Nat.le_of_ble_eq_true rfl) (Nat.le_of_ble_eq_true rfl) ?_
  refine x_putrF dX1_init_27 F_Basket_24 T_1_3 rfl rfl hw rfl (fun _ => rfl) (fun _ => rfl) ?_
  refine x_aload_n dX1_init_30 rfl ?_
  refine x_aload_n dX1_init_31 rfl ?_
  refine x_putrF dX1_init_32 F_Basket_27 T_1_0 rfl rfl hw rfl (fun _ => rfl) (fun _ => rfl) ?_
  refine x_return dX1_init_35 rfl ?_
  exact ⟨rfl, rfl⟩

set_option maxHeartbeats 4000000 in
set_option maxRecDepth 100000 in
theorem m_Acts_init {g : xG} {nx : Nat} {sh : Nat → Nat × Nat} {P : Nat → Nat → Option Nat} {I : Nat → Nat → Int32} (hw : (sh 125).1 = 0) : xMet g Y_Acts_init 1 1 20 [.ref 125] (126, sh, P, I) (fun r σ => r = none ∧ σ = (127, (va_up sh 126 (12, 20)), (xrp (va_up P 126 (fun _ => none)) 125 0 (some 126)), (xup (xup (xup (xup (va_up I 126 (fun _ => 0)) 125 1 0) 125 2 0) 125 3 0) 125 4 0))) := by
  refine xMet.of [some (.ref 125)] (by decide +kernel) (Nat.le_of_ble_eq_true rfl) rfl ?_
  refine x_aload_n dX0_init_0 rfl ?_
  refine x_objInit dX0_init_1 OI_Acts_3 OI_inst OI_code (Nat.le_of_ble_eq_true rfl) (Nat.le_of_ble_eq_true rfl) ?_
  refine x_aload_n dX0_init_4 rfl ?_
  refine x_bipush (v := 20) dX0_init_5 (by decide) ?_
  refine y_newI (k2 := 0) (n2 := 0) (nx1 := 127) (len := 20) dX0_init_7 rfl rfl (Nat.le_of_ble_eq_true rfl) (Nat.le_of_ble_eq_true rfl) (Nat.le_of_ble_eq_true rfl) ?_
  refine x_putrF dX0_init_9 F_Acts_9 T_0_0 rfl rfl hw rfl (fun _ => rfl) (fun _ => rfl) ?_
  refine x_aload_n dX0_init_12 rfl ?_
  refine x_iconst (v := 0) dX0_init_13 (by decide) ?_
  refine x_puti dX0_init_14 F_Acts_15 T_0_1 hw rfl rfl rfl ?_
  refine x_aload_n dX0_init_17 rfl ?_
  refine x_iconst (v := 0) dX0_init_18 (by decide) ?_
  refine x_puti dX0_init_19 F_Acts_19 T_0_2 hw rfl rfl rfl ?_
  refine x_aload_n dX0_init_22 rfl ?_
  refine x_iconst (v := 0) dX0_init_23 (by decide) ?_
  refine x_puti dX0_init_24 F_Acts_22 T_0_3 hw rfl rfl rfl ?_
  refine x_aload_n dX0_init_27 rfl ?_
  refine x_iconst (v := 0) dX0_init_28 (by decide) ?_
  refine x_puti dX0_init_29 F_Acts_25 T_0_4 hw rfl rfl rfl ?_
  refine x_return dX0_init_32 rfl ?_
  exact ⟨rfl, rfl⟩
