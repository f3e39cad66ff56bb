/-! constructors: the class, the reference -/
set_option maxHeartbeats 4000000 in
set_option maxRecDepth 100000 in
theorem m_C_init {g : xG} {nx : Nat} {sh : Nat → Nat × Nat} {P : Nat → Nat → Option Nat} {I : Nat → Nat → Int32} (hw : (sh 64).1 = 10) : xMet g Y_C_init 4 62 1056 [.ref 64] (65, sh, P, I) (fun r σ => r = none ∧ σ = (127, (va_up (va_up (va_up (va_up (va_up (va_up (va_up (va_up (va_up (va_up (va_up (va_up (va_up (va_up (va_up (va_up (va_up (va_up (va_up (va_up (va_up (va_up (va_up (va_up (va_up (va_up (va_up (va_up (va_up (va_up (va_up (va_up (va_up (va_up (va_up (va_up (va_up (va_up (va_up (va_up (va_up (va_up (va_up (va_up (va_up (va_up (va_up (va_up (va_up (va_up (va_up (va_up (va_up (va_up (va_up (va_up (va_up (va_up (va_up (va_up (va_up (va_up sh 65 (9, 0)) 66 (8, 0)) 67 (12, 1 * 100)) 68 (8, 0)) 69 (12, 8 * 4)) 70 (8, 0)) 71 (12, 1 * 5)) 72 (8, 0)) 73 (12, 5 * 6)) 74 (8, 0)) 75 (12, 3 * 6)) 76 (8, 0)) 77 (12, 1 * 6)) 78 (8, 0)) 79 (12, 2 * 8)) 80 (12, 6)) 81 (9, 0)) 82 (8, 0)) 83 (12, 1 * 100)) 84 (8, 0)) 85 (12, 8 * 4)) 86 (8, 0)) 87 (12, 1 * 5)) 88 (8, 0)) 89 (12, 5 * 6)) 90 (8, 0)) 91 (12, 3 * 6)) 92 (8, 0)) 93 (12, 1 * 6)) 94 (8, 0)) 95 (12, 2 * 8)) 96 (12, 6)) 97 (6, 0)) 98 (12, 100)) 99 (12, 100)) 100 (3, 0)) 101 (7, 0)) 102 (12, 4)) 103 (12, 4)) 104 (12, 4)) 105 (12, 40)) 106 (12, 4)) 107 (12, 40)) 108 (12, 48)) 109 (5, 0)) 110 (12, 4)) 111 (12, 4)) 112 (7, 0)) 113 (12, 4)) 114 (12, 4)) 115 (12, 4)) 116 (12, 4)) 117 (13, 100)) 118 (1, 0)) 119 (7, 0)) 120 (12, 5)) 121 (12, 5)) 122 (12, 5)) 123 (12, 5)) 124 (12, 5)) 125 (0, 0)) 126 (12, 20)), (xrp (xrp (va_up (va_up (xrp (xrp (xrp (va_up (xrp (va_up (xrp (xrp (va_up (xrp (va_up (xrp (va_up (va_up (va_up (xrp (xrp (xrp (va_up (xrp (va_up (xrp (xrp (va_up (xrp (va_up (xrp (va_up (va_up (xrp (va_up (xrp (va_up (va_up (xrp (xrp (xrp (va_up (xrp (va_up (xrp (va_up (xrp (va_up (xrp (xrp (va_up (xrp (va_up (xrp (va_up (va_up (va_up (xrp (xrp (xrp (va_up (xrp (va_up (va_up (xrp (xrp (va_up (xrp (xrp (xrp (va_up (va_up (xrp (xrp (va_up (va_up (xrp (xrp (va_up (va_up (xrp (xrp (va_up (va_up (xrp (xrp (va_up (va_up (xrp (xrp (va_up (va_up (xrp (xrp (va_up (va_up (va_up (xrp (xrp (va_up (xrp (xrp (xrp (va_up (va_up (xrp (xrp (va_up (va_up (xrp (xrp (va_up (va_up (xrp (xrp (va_up (va_up (xrp (xrp (va_up (va_up (xrp (xrp (va_up (va_up (xrp (xrp (va_up (va_up (va_up P 65 (fun _ => none)) 66 (fun _ => none)) 67 (fun _ => none)) 66 2 (some 67)) 65 0 (some 66)) 68 (fun _ => none)) 69 (fun _ => none)) 68 2 (some 69)) 65 1 (some 68)) 70 (fun _ => none)) 71 (fun _ => none)) 70 2 (some 71)) 65 2 (some 70)) 72 (fun _ => none)) 73 (fun _ => none)) 72 2 (some 73)) 65 3 (some 72)) 74 (fun _ => none)) 75 (fun _ => none)) 74 2 (some 75)) 65 4 (some 74)) 76 (fun _ => none)) 77 (fun _ => none)) 76 2 (some 77)) 65 5 (some 76)) 78 (fun _ => none)) 79 (fun _ => none)) 78 2 (some 79)) 65 6 (some 78)) 65 8 none) 80 (fun _ => none)) 65 10 (some 80)) 64 0 (some 65)) 81 (fun _ => none)) 82 (fun _ => none)) 83 (fun _ => none)) 82 2 (some 83)) 81 0 (some 82)) 84 (fun _ => none)) 85 (fun _ => none)) 84 2 (some 85)) 81 1 (some 84)) 86 (fun _ => none)) 87 (fun _ => none)) 86 2 (some 87)) 81 2 (some 86)) 88 (fun _ => none)) 89 (fun _ => none)) 88 2 (some 89)) 81 3 (some 88)) 90 (fun _ => none)) 91 (fun _ => none)) 90 2 (some 91)) 81 4 (some 90)) 92 (fun _ => none)) 93 (fun _ => none)) 92 2 (some 93)) 81 5 (some 92)) 94 (fun _ => none)) 95 (fun _ => none)) 94 2 (some 95)) 81 6 (some 94)) 81 8 none) 96 (fun _ => none)) 81 10 (some 96)) 64 1 (some 81)) 97 (fun _ => none)) 98 (fun _ => none)) 97 1 (some 98)) 99 (fun _ => none)) 97 4 (some 99)) 97 0 (some 66)) 64 3 (some 97)) 100 (fun _ => none)) 101 (fun _ => none)) 102 (fun _ => none)) 101 0 (some 102)) 103 (fun _ => none)) 101 1 (some 103)) 104 (fun _ => none)) 101 2 (some 104)) 100 1 (some 101)) 105 (fun _ => none)) 100 2 (some 105)) 106 (fun _ => none)) 100 3 (some 106)) 107 (fun _ => none)) 100 5 (some 107)) 108 (fun _ => none)) 100 6 (some 108)) 100 0 (some 65)) 64 4 (some 100)) 109 (fun _ => none)) 110 (fun _ => none)) 109 1 (some 110)) 111 (fun _ => none)) 109 2 (some 111)) 112 (fun _ => none)) 113 (fun _ => none)) 112 0 (some 113)) 114 (fun _ => none)) 112 1 (some 114)) 115 (fun _ => none)) 112 2 (some 115)) 109 3 (some 112)) 116 (fun _ => none)) 109 4 (some 116)) 117 (fun _ => none)) 109 5 (some 117)) 109 0 (some 65)) 64 5 (some 109)) 118 (fun _ => none)) 119 (fun _ => none)) 120 (fun _ => none)) 119 0 (some 120)) 121 (fun _ => none)) 119 1 (some 121)) 122 (fun _ => none)) 119 2 (some 122)) 118 1 (some 119)) 123 (fun _ => none)) 118 2 (some 123)) 124 (fun _ => none)) 118 3 (some 124)) 118 0 (some 70)) 64 6 (some 118)) 125 (fun _ => none)) 126 (fun _ => none)) 125 0 (some 126)) 64 7 (some 125)), (xup (xup (xup (xup (va_up (va_up (va_up (va_up (va_up (va_up (va_up (va_up (va_up (va_up (va_up (va_up (va_up (va_up (va_up (va_up (va_up (va_up (va_up (va_up (xup (va_up (va_up (va_up (va_up (va_up (va_up (va_up (xup (xup (xup (va_up (xup (xup (va_up (va_up (xup (va_up (xup (xup (va_up (xup (xup (xup (va_up (va_up (xup (xup (xup (va_up (va_up (xup (xup (xup (va_up (va_up (xup (xup (xup (va_up (va_up (xup (xup (xup (va_up (va_up (xup (xup (xup (va_up (va_up (xup (xup (xup (va_up (va_up (va_up (xup (xup (va_up (xup (xup (xup (va_up (va_up (xup (xup (xup (va_up (va_up (xup (xup (xup (va_up (va_up (xup (xup (xup (va_up (va_up (xup (xup (xup (va_up (va_up (xup (xup (xup (va_up (va_up (xup (xup (xup (va_up (va_up I 65 (fun _ => 0)) 66 (fun _ => 0)) 66 3 0) 66 0 (nI 1)) 66 1 (nI 100)) 67 (fun _ => 0)) 68 (fun _ => 0)) 68 3 0) 68 0 (nI 8)) 68 1 (nI 4)) 69 (fun _ => 0)) 70 (fun _ => 0)) 70 3 0) 70 0 (nI 1)) 70 1 (nI 5)) 71 (fun _ => 0)) 72 (fun _ => 0)) 72 3 0) 72 0 (nI 5)) 72 1 (nI 6)) 73 (fun _ => 0)) 74 (fun _ => 0)) 74 3 0) 74 0 (nI 3)) 74 1 (nI 6)) 75 (fun _ => 0)) 76 (fun _ => 0)) 76 3 0) 76 0 (nI 1)) 76 1 (nI 6)) 77 (fun _ => 0)) 78 (fun _ => 0)) 78 3 0) 78 0 (nI 2)) 78 1 (nI 8)) 79 (fun _ => 0)) 65 7 0) 65 9 0) 80 (fun _ => 0)) 81 (fun _ => 0)) 82 (fun _ => 0)) 82 3 0) 82 0 (nI 1)) 82 1 (nI 100)) 83 (fun _ => 0)) 84 (fun _ => 0)) 84 3 0) 84 0 (nI 8)) 84 1 (nI 4)) 85 (fun _ => 0)) 86 (fun _ => 0)) 86 3 0) 86 0 (nI 1)) 86 1 (nI 5)) 87 (fun _ => 0)) 88 (fun _ => 0)) 88 3 0) 88 0 (nI 5)) 88 1 (nI 6)) 89 (fun _ => 0)) 90 (fun _ => 0)) 90 3 0) 90 0 (nI 3)) 90 1 (nI 6)) 91 (fun _ => 0)) 92 (fun _ => 0)) 92 3 0) 92 0 (nI 1)) 92 1 (nI 6)) 93 (fun _ => 0)) 94 (fun _ => 0)) 94 3 0) 94 0 (nI 2)) 94 1 (nI 8)) 95 (fun _ => 0)) 81 7 0) 81 9 0) 96 (fun _ => 0)) 64 2 0) 97 (fun _ => 0)) 98 (fun _ => 0)) 97 2 0) 97 3 0) 99 (fun _ => 0)) 97 5 0) 97 6 0) 97 7 0) 100 (fun _ => 0)) 101 (fun _ => 0)) 102 (fun _ => 0)) 103 (fun _ => 0)) 104 (fun _ => 0)) 105 (fun _ => 0)) 106 (fun _ => 0)) 100 4 0) 107 (fun _ => 0)) 108 (fun _ => 0)) 109 (fun _ => 0)) 110 (fun _ => 0)) 111 (fun _ => 0)) 112 (fun _ => 0)) 113 (fun _ => 0)) 114 (fun _ => 0)) 115 (fun _ => 0)) 116 (fun _ => 0)) 117 (fun _ => 0)) 118 (fun _ => 0)) 119 (fun _ => 0)) 120 (fun _ => 0)) 121 (fun _ => 0)) 122 (fun _ => 0)) 123 (fun _ => 0)) 124 (fun _ => 0)) 125 (fun _ => 0)) 126 (fun _ => 0)) 125 1 0) 125 2 0) 125 3 0) 125 4 0))) := by
  refine xMet.of [some (.ref 64)] (by decide +kernel) (Nat.le_of_ble_eq_true rfl) rfl ?_
  refine x_aload_n dX10_init_0 rfl ?_
  refine x_objInit dX10_init_1 OI_C_3 OI_inst OI_code (Nat.le_of_ble_eq_true rfl) (Nat.le_of_ble_eq_true rfl) ?_
  refine x_aload_n dX10_init_4 rfl ?_
  refine y_new (k2 := 61) (n2 := 1045) (nx1 := 66) dX10_init_5 N_C_9 rfl (Nat.le_of_ble_eq_true rfl) (Nat.le_of_ble_eq_true rfl) ?_
  refine x_dup dX10_init_8 rfl ?_
  refine x_callI (k2 := 46) (n2 := 804) dX10_init_9 LI_C_11 (m_World_init_65 (nx := 0) (by rfl)) rfl rfl (Nat.le_of_ble_eq_true rfl) (Nat.le_of_ble_eq_true rfl) (Nat.le_of_ble_eq_true rfl) (Nat.le_of_ble_eq_true rfl) ?_
  rintro _ _ ⟨rfl, rfl⟩
  refine x_putrF dX10_init_12 F_C_12 T_10_0 rfl rfl hw rfl (fun _ => rfl) (fun _ => rfl) ?_
  refine x_aload_n dX10_init_15 rfl ?_
  refine y_new (k2 := 45) (n2 := 793) (nx1 := 82) dX10_init_16 N_C_9 rfl (Nat.le_of_ble_eq_true rfl) (Nat.le_of_ble_eq_true rfl) ?_
  refine x_dup dX10_init_19 rfl ?_
  refine x_callI (k2 := 30) (n2 := 552) dX10_init_20 LI_C_11 (m_World_init_81 (nx := 0) (by rfl)) rfl rfl (Nat.le_of_ble_eq_true rfl) (Nat.le_of_ble_eq_true rfl) (Nat.le_of_ble_eq_true rfl) (Nat.le_of_ble_eq_true rfl) ?_
  rintro _ _ ⟨rfl, rfl⟩
  refine x_putrF dX10_init_23 F_C_18 T_10_1 rfl rfl hw rfl (fun _ => rfl) (fun _ => rfl) ?_
  refine x_aload_n dX10_init_26 rfl ?_
  refine x_iconst (v := 0) dX10_init_27 (by decide) ?_
  refine x_puti dX10_init_28 F_C_21 T_10_2 hw rfl rfl rfl ?_
  refine x_aload_n dX10_init_31 rfl ?_
  refine y_new (k2 := 29) (n2 := 544) (nx1 := 98) dX10_init_32 N_C_25 rfl (Nat.le_of_ble_eq_true rfl) (Nat.le_of_ble_eq_true rfl) ?_
  refine x_dup dX10_init_35 rfl ?_
  refine x_aload_n dX10_init_36 rfl ?_
  refine y_getr dX10_init_37 F_C_12 hw rfl rfl ?_
  refine y_getr dX10_init_40 F_C_27 rfl rfl rfl ?_
  refine x_callI (k2 := 27) (n2 := 344) dX10_init_43 LI_C_31 (m_Reader_init (nx := 0) (by rfl)) rfl rfl (Nat.le_of_ble_eq_true rfl) (Nat.le_of_ble_eq_true rfl) (Nat.le_of_ble_eq_true rfl) (Nat.le_of_ble_eq_true rfl) ?_
  rintro _ _ ⟨rfl, rfl⟩
  refine x_putrF dX10_init_46 F_C_34 T_10_3 rfl rfl hw rfl (fun _ => rfl) (fun _ => rfl) ?_
  refine x_aload_n dX10_init_49 rfl ?_
  refine y_new (k2 := 26) (n2 := 337) (nx1 := 101) dX10_init_50 N_C_38 rfl (Nat.le_of_ble_eq_true rfl) (Nat.le_of_ble_eq_true rfl) ?_
  refine x_dup dX10_init_53 rfl ?_
  refine x_aload_n dX10_init_54 rfl ?_
  refine y_getr dX10_init_55 F_C_12 hw rfl rfl ?_
  refine x_callI (k2 := 18) (n2 := 190) dX10_init_58 LI_C_40 (m_Guesses_init (nx := 0) (by rfl)) rfl rfl (Nat.le_of_ble_eq_true rfl) (Nat.le_of_ble_eq_true rfl) (Nat.le_of_ble_eq_true rfl) (Nat.le_of_ble_eq_true rfl) ?_
  rintro _ _ ⟨rfl, rfl⟩
  refine x_putrF dX10_init_61 F_C_43 T_10_4 rfl rfl hw rfl (fun _ => rfl) (fun _ => rfl) ?_
  refine x_aload_n dX10_init_64 rfl ?_
  refine y_new (k2 := 17) (n2 := 184) (nx1 := 110) dX10_init_65 N_C_47 rfl (Nat.le_of_ble_eq_true rfl) (Nat.le_of_ble_eq_true rfl) ?_
  refine x_dup dX10_init_68 rfl ?_
  refine x_aload_n dX10_init_69 rfl ?_
  refine y_getr dX10_init_70 F_C_12 hw rfl rfl ?_
  refine x_callI (k2 := 9) (n2 := 57) dX10_init_73 LI_C_49 (m_Payer_init (nx := 0) (by rfl)) rfl rfl (Nat.le_of_ble_eq_true rfl) (Nat.le_of_ble_eq_true rfl) (Nat.le_of_ble_eq_true rfl) (Nat.le_of_ble_eq_true rfl) ?_
  rintro _ _ ⟨rfl, rfl⟩
  refine x_putrF dX10_init_76 F_C_50 T_10_5 rfl rfl hw rfl (fun _ => rfl) (fun _ => rfl) ?_
  refine x_aload_n dX10_init_79 rfl ?_
  refine y_new (k2 := 8) (n2 := 53) (nx1 := 119) dX10_init_80 N_C_54 rfl (Nat.le_of_ble_eq_true rfl) (Nat.le_of_ble_eq_true rfl) ?_
  refine x_dup dX10_init_83 rfl ?_
  refine x_aload_n dX10_init_84 rfl ?_
  refine y_getr dX10_init_85 F_C_12 hw rfl rfl ?_
  refine y_getr dX10_init_88 F_C_56 rfl rfl rfl ?_
  refine x_callI (k2 := 2) (n2 := 25) dX10_init_91 LI_C_59 (m_Basket_init (nx := 0) (by rfl)) rfl rfl (Nat.le_of_ble_eq_true rfl) (Nat.le_of_ble_eq_true rfl) (Nat.le_of_ble_eq_true rfl) (Nat.le_of_ble_eq_true rfl) ?_
  rintro _ _ ⟨rfl, rfl⟩
  refine x_putrF dX10_init_94 F_C_60 T_10_6 rfl rfl hw rfl (fun _ => rfl) (fun _ => rfl) ?_
  refine x_aload_n dX10_init_97 rfl ?_
  refine y_new (k2 := 1) (n2 := 20) (nx1 := 126) dX10_init_98 N_C_64 rfl (Nat.le_of_ble_eq_true rfl) (Nat.le_of_ble_eq_true rfl) ?_
  refine x_dup dX10_init_101 rfl ?_
  refine x_callI (k2 := 0) (n2 := 0) dX10_init_102 LI_C_66 (m_Acts_init (nx := 0) (by rfl)) rfl rfl (Nat.le_of_ble_eq_true rfl) (Nat.le_of_ble_eq_true rfl) (Nat.le_of_ble_eq_true rfl) (Nat.le_of_ble_eq_true rfl) ?_
  rintro _ _ ⟨rfl, rfl⟩
  refine x_putrF dX10_init_105 F_C_67 T_10_7 rfl rfl hw rfl (fun _ => rfl) (fun _ => rfl) ?_
  refine x_return dX10_init_108 rfl ?_
  exact ⟨rfl, rfl⟩

set_option maxHeartbeats 4000000 in
set_option maxRecDepth 100000 in
theorem m_M_init {g : xG} {nx : Nat} {sh : Nat → Nat × Nat} {P : Nat → Nat → Option Nat} {I : Nat → Nat → Int32} (hw : (sh 127).1 = 11) : xMet g Y_M_init 1 16 2168 [.ref 127] (128, sh, P, I) (fun r σ => r = none ∧ σ = (144, (va_up (va_up (va_up (va_up (va_up (va_up (va_up (va_up (va_up (va_up (va_up (va_up (va_up (va_up (va_up (va_up sh 128 (12, 932)) 129 (12, 932)) 130 (12, 6)) 131 (13, 64)) 132 (12, 4)) 133 (12, 40)) 134 (12, 4)) 135 (12, 40)) 136 (12, 4)) 137 (12, 4)) 138 (12, 4)) 139 (12, 4)) 140 (13, 100)) 141 (12, 5)) 142 (12, 5)) 143 (12, 20)), (xrp (va_up (xrp (va_up (xrp (va_up (xrp (va_up (xrp (va_up (xrp (va_up (xrp (va_up (xrp (va_up (xrp (va_up (xrp (va_up (xrp (va_up (xrp (va_up (xrp (va_up (xrp (va_up (xrp (va_up (xrp (va_up P 128 (fun _ => none)) 127 1 (some 128)) 129 (fun _ => none)) 127 2 (some 129)) 130 (fun _ => none)) 127 9 (some 130)) 131 (fun _ => none)) 127 10 (some 131)) 132 (fun _ => none)) 127 11 (some 132)) 133 (fun _ => none)) 127 12 (some 133)) 134 (fun _ => none)) 127 13 (some 134)) 135 (fun _ => none)) 127 15 (some 135)) 136 (fun _ => none)) 127 20 (some 136)) 137 (fun _ => none)) 127 21 (some 137)) 138 (fun _ => none)) 127 22 (some 138)) 139 (fun _ => none)) 127 23 (some 139)) 140 (fun _ => none)) 127 26 (some 140)) 141 (fun _ => none)) 127 27 (some 141)) 142 (fun _ => none)) 127 28 (some 142)) 143 (fun _ => none)) 127 29 (some 143)), (xup (va_up (va_up (va_up (va_up (va_up (va_up (va_up (va_up (va_up (va_up (va_up (va_up (va_up (va_up (va_up (va_up I 128 (fun _ => 0)) 129 (fun _ => 0)) 130 (fun _ => 0)) 131 (fun _ => 0)) 132 (fun _ => 0)) 133 (fun _ => 0)) 134 (fun _ => 0)) 135 (fun _ => 0)) 136 (fun _ => 0)) 137 (fun _ => 0)) 138 (fun _ => 0)) 139 (fun _ => 0)) 140 (fun _ => 0)) 141 (fun _ => 0)) 142 (fun _ => 0)) 143 (fun _ => 0)) 128 8 (-1)))) := by
  refine xMet.of [some (.ref 127)] (by decide +kernel) (Nat.le_of_ble_eq_true rfl) rfl ?_
  refine x_aload_n dX11_init_0 rfl ?_
  refine x_objInit dX11_init_1 OI_M_3 OI_inst OI_code (Nat.le_of_ble_eq_true rfl) (Nat.le_of_ble_eq_true rfl) ?_
  refine x_aload_n dX11_init_4 rfl ?_
  refine x_sipush (v := 932) dX11_init_5 (by decide) ?_
  refine y_newI (k2 := 15) (n2 := 1236) (nx1 := 129) (len := 932) dX11_init_8 rfl rfl (Nat.le_of_ble_eq_true rfl) (Nat.le_of_ble_eq_true rfl) (Nat.le_of_ble_eq_true rfl) ?_
  refine x_putrF dX11_init_10 F_M_9 T_11_1 rfl rfl hw rfl (fun _ => rfl) (fun _ => rfl) ?_
  refine x_aload_n dX11_init_13 rfl ?_
  refine x_sipush (v := 932) dX11_init_14 (by decide) ?_
  refine y_newI (k2 := 14) (n2 := 304) (nx1 := 130) (len := 932) dX11_init_17 rfl rfl (Nat.le_of_ble_eq_true rfl) (Nat.le_of_ble_eq_true rfl) (Nat.le_of_ble_eq_true rfl) ?_
  refine x_putrF dX11_init_19 F_M_15 T_11_2 rfl rfl hw rfl (fun _ => rfl) (fun _ => rfl) ?_
  refine x_aload_n dX11_init_22 rfl ?_
  refine x_bipush (v := 6) dX11_init_23 (by decide) ?_
  refine y_newI (k2 := 13) (n2 := 298) (nx1 := 131) (len := 6) dX11_init_25 rfl rfl (Nat.le_of_ble_eq_true rfl) (Nat.le_of_ble_eq_true rfl) (Nat.le_of_ble_eq_true rfl) ?_
  refine x_putrF dX11_init_27 F_M_18 T_11_9 rfl rfl hw rfl (fun _ => rfl) (fun _ => rfl) ?_
  refine x_aload_n dX11_init_30 rfl ?_
  refine x_bipush (v := 64) dX11_init_31 (by decide) ?_
  refine y_newZ (k2 := 12) (n2 := 234) (nx1 := 132) (len := 64) dX11_init_33 rfl rfl (Nat.le_of_ble_eq_true rfl) (Nat.le_of_ble_eq_true rfl) (Nat.le_of_ble_eq_true rfl) ?_
  refine x_putrF dX11_init_35 F_M_21 T_11_10 rfl rfl hw rfl (fun _ => rfl) (fun _ => rfl) ?_
  refine x_aload_n dX11_init_38 rfl ?_
  refine x_iconst (v := 4) dX11_init_39 (by decide) ?_
  refine y_newI (k2 := 11) (n2 := 230) (nx1 := 133) (len := 4) dX11_init_40 rfl rfl (Nat.le_of_ble_eq_true rfl) (Nat.le_of_ble_eq_true rfl) (Nat.le_of_ble_eq_true rfl) ?_
  refine x_putrF dX11_init_42 F_M_25 T_11_11 rfl rfl hw rfl (fun _ => rfl) (fun _ => rfl) ?_
  refine x_aload_n dX11_init_45 rfl ?_
  refine x_bipush (v := 40) dX11_init_46 (by decide) ?_
  refine y_newI (k2 := 10) (n2 := 190) (nx1 := 134) (len := 40) dX11_init_48 rfl rfl (Nat.le_of_ble_eq_true rfl) (Nat.le_of_ble_eq_true rfl) (Nat.le_of_ble_eq_true rfl) ?_
  refine x_putrF dX11_init_50 F_M_28 T_11_12 rfl rfl hw rfl (fun _ => rfl) (fun _ => rfl) ?_
  refine x_aload_n dX11_init_53 rfl ?_
  refine x_iconst (v := 4) dX11_init_54 (by decide) ?_
  refine y_newI (k2 := 9) (n2 := 186) (nx1 := 135) (len := 4) dX11_init_55 rfl rfl (Nat.le_of_ble_eq_true rfl) (Nat.le_of_ble_eq_true rfl) (Nat.le_of_ble_eq_true rfl) ?_
  refine x_putrF dX11_init_57 F_M_31 T_11_13 rfl rfl hw rfl (fun _ => rfl) (fun _ => rfl) ?_
  refine x_aload_n dX11_init_60 rfl ?_
  refine x_bipush (v := 40) dX11_init_61 (by decide) ?_
  refine y_newI (k2 := 8) (n2 := 146) (nx1 := 136) (len := 40) dX11_init_63 rfl rfl (Nat.le_of_ble_eq_true rfl) (Nat.le_of_ble_eq_true rfl) (Nat.le_of_ble_eq_true rfl) ?_
  refine x_putrF dX11_init_65 F_M_34 T_11_15 rfl rfl hw rfl (fun _ => rfl) (fun _ => rfl) ?_
  refine x_aload_n dX11_init_68 rfl ?_
  refine x_iconst (v := 4) dX11_init_69 (by decide) ?_
  refine y_newI (k2 := 7) (n2 := 142) (nx1 := 137) (len := 4) dX11_init_70 rfl rfl (Nat.le_of_ble_eq_true rfl) (Nat.le_of_ble_eq_true rfl) (Nat.le_of_ble_eq_true rfl) ?_
  refine x_putrF dX11_init_72 F_M_37 T_11_20 rfl rfl hw rfl (fun _ => rfl) (fun _ => rfl) ?_
  refine x_aload_n dX11_init_75 rfl ?_
  refine x_iconst (v := 4) dX11_init_76 (by decide) ?_
  refine y_newI (k2 := 6) (n2 := 138) (nx1 := 138) (len := 4) dX11_init_77 rfl rfl (Nat.le_of_ble_eq_true rfl) (Nat.le_of_ble_eq_true rfl) (Nat.le_of_ble_eq_true rfl) ?_
  refine x_putrF dX11_init_79 F_M_40 T_11_21 rfl rfl hw rfl (fun _ => rfl) (fun _ => rfl) ?_
  refine x_aload_n dX11_init_82 rfl ?_
  refine x_iconst (v := 4) dX11_init_83 (by decide) ?_
  refine y_newI (k2 := 5) (n2 := 134) (nx1 := 139) (len := 4) dX11_init_84 rfl rfl (Nat.le_of_ble_eq_true rfl) (Nat.le_of_ble_eq_true rfl) (Nat.le_of_ble_eq_true rfl) ?_
  refine x_putrF dX11_init_86 F_M_43 T_11_22 rfl rfl hw rfl (fun _ => rfl) (fun _ => rfl) ?_
  refine x_aload_n dX11_init_89 rfl ?_
  refine x_iconst (v := 4) dX11_init_90 (by decide) ?_
  refine y_newI (k2 := 4) (n2 := 130) (nx1 := 140) (len := 4) dX11_init_91 rfl rfl (Nat.le_of_ble_eq_true rfl) (Nat.le_of_ble_eq_true rfl) (Nat.le_of_ble_eq_true rfl) ?_
  refine x_putrF dX11_init_93 F_M_46 T_11_23 rfl rfl hw rfl (fun _ => rfl) (fun _ => rfl) ?_
  refine x_aload_n dX11_init_96 rfl ?_
  refine x_bipush (v := 100) dX11_init_97 (by decide) ?_
  refine y_newZ (k2 := 3) (n2 := 30) (nx1 := 141) (len := 100) dX11_init_99 rfl rfl (Nat.le_of_ble_eq_true rfl) (Nat.le_of_ble_eq_true rfl) (Nat.le_of_ble_eq_true rfl) ?_
  refine x_putrF dX11_init_101 F_M_49 T_11_26 rfl rfl hw rfl (fun _ => rfl) (fun _ => rfl) ?_
  refine x_aload_n dX11_init_104 rfl ?_
  refine x_iconst (v := 5) dX11_init_105 (by decide) ?_
  refine y_newI (k2 := 2) (n2 := 25) (nx1 := 142) (len := 5) dX11_init_106 rfl rfl (Nat.le_of_ble_eq_true rfl) (Nat.le_of_ble_eq_true rfl) (Nat.le_of_ble_eq_true rfl) ?_
  refine x_putrF dX11_init_108 F_M_52 T_11_27 rfl rfl hw rfl (fun _ => rfl) (fun _ => rfl) ?_
  refine x_aload_n dX11_init_111 rfl ?_
  refine x_iconst (v := 5) dX11_init_112 (by decide) ?_
  refine y_newI (k2 := 1) (n2 := 20) (nx1 := 143) (len := 5) dX11_init_113 rfl rfl (Nat.le_of_ble_eq_true rfl) (Nat.le_of_ble_eq_true rfl) (Nat.le_of_ble_eq_true rfl) ?_
  refine x_putrF dX11_init_115 F_M_55 T_11_28 rfl rfl hw rfl (fun _ => rfl) (fun _ => rfl) ?_
  refine x_aload_n dX11_init_118 rfl ?_
  refine x_bipush (v := 20) dX11_init_119 (by decide) ?_
  refine y_newI (k2 := 0) (n2 := 0) (nx1 := 144) (len := 20) dX11_init_121 rfl rfl (Nat.le_of_ble_eq_true rfl) (Nat.le_of_ble_eq_true rfl) (Nat.le_of_ble_eq_true rfl) ?_
  refine x_putrF dX11_init_123 F_M_58 T_11_29 rfl rfl hw rfl (fun _ => rfl) (fun _ => rfl) ?_
  refine x_aload_n dX11_init_126 rfl ?_
  refine y_getr dX11_init_127 F_M_9 hw rfl rfl ?_
  refine x_bipush (v := 8) dX11_init_130 (by decide) ?_
  refine x_iconst (v := (-1)) dX11_init_132 (by decide) ?_
  refine y_iastore dX11_init_133 rfl (vi (j := 8) rfl (by decide) (by decide)) (ci (j := 8) rfl (by decide)) ?_
  refine x_return dX11_init_134 rfl ?_
  exact ⟨rfl, rfl⟩
