/-! the class: a world taken over -/
theorem tk_tab {sh : Nat → Nat × Nat} {P : Nat → Nat → Option Nat} {I : Nat → Nat → Int32} {t c W L n t2 c2 n2 : Nat} (hT : xTb sh P I t c W L n) (hU : xTb sh P I t2 c2 W L n2) : xTb sh P (xup (va_up I c (xTk (I c2) (I c) (W * L))) t 3 (nI n2)) t c W L n2 ∧ (∀ j, j < W * L → xup (va_up I c (xTk (I c2) (I c) (W * L))) t 3 (nI n2) c j = I c2 j) ∧ ∀ b, b ≠ t → b ≠ c → xup (va_up I c (xTk (I c2) (I c) (W * L))) t 3 (nI n2) b = I b := by
  obtain ⟨h1, h2, h3, h4, h5, h6, h7, h8, h9, h10, h11⟩ := hT
  have u7 : n2 ≤ L := hU.2.2.2.2.2.2.1
  have g : ∀ k, k ≠ 3 → xup (va_up I c (xTk (I c2) (I c) (W * L))) t 3 (nI n2) t k = I t k := fun k hk => by rw [xf hk, va_up_no h11]
  refine ⟨⟨h1, h2, h3, by rw [g 0 (by decide)]; exact h4, by rw [g 1 (by decide)]; exact h5, xs, u7, h8, h9, h10, h11⟩, fun j hj => ?_, fun b hb hc => ?_⟩
  · rw [xup_n (fun z => h11 z.symm), va_up_at]
    exact xTk_r hj
  · rw [xup_n hb, va_up_no hc]
theorem xTb.P {sh : Nat → Nat × Nat} {P P1 : Nat → Nat → Option Nat} {I : Nat → Nat → Int32} {t c W L n : Nat} (h : xTb sh P I t c W L n) (hp : P1 t 2 = P t 2) : xTb sh P1 I t c W L n := ⟨h.1, hp.trans h.2.1, h.2.2⟩
theorem xFx.P {sh : Nat → Nat × Nat} {P P1 : Nat → Nat → Option Nat} (h : xFx sh P) (hp : ∀ a k, ¬ ((a = 65 ∨ a = 81) ∧ k = 8) → P1 a k = P a k) : xFx sh P1 := by
  have hq : ∀ q ∈ xPtT, ¬ ((q.1 = 65 ∨ q.1 = 81) ∧ q.2.1 = 8) := by decide +kernel
  exact ⟨h.1, fun q hm => (hp _ _ (hq q hm)).trans (h.2 q hm)⟩
set_option maxHeartbeats 4000000 in
set_option maxRecDepth 100000 in
theorem m_take_81_N {g : xG} {nx : Nat} {sh : Nat → Nat × Nat} {P : Nat → Nat → Option Nat} {I : Nat → Nat → Int32} (hx : xFx sh P) {n1 n2 n3 n4 n5 n6 n7 m1 m2 m3 m4 m5 m6 m7 : Nat} (s1 : xTb sh P I 66 67 1 100 n1) (d1 : xTb sh P I 82 83 1 100 m1) (s2 : xTb sh P I 68 69 8 4 n2) (d2 : xTb sh P I 84 85 8 4 m2) (s3 : xTb sh P I 70 71 1 5 n3) (d3 : xTb sh P I 86 87 1 5 m3) (s4 : xTb sh P I 72 73 5 6 n4) (d4 : xTb sh P I 88 89 5 6 m4) (s5 : xTb sh P I 74 75 3 6 n5) (d5 : xTb sh P I 90 91 3 6 m5) (s6 : xTb sh P I 76 77 1 6 n6) (d6 : xTb sh P I 92 93 1 6 m6) (s7 : xTb sh P I 78 79 2 8 n7) (d7 : xTb sh P I 94 95 2 8 m7) (hP8 : P 65 8 = none) : xMet g Y_World_takeOver 2 0 0 [.ref 81, .ref 65] (nx, sh, P, I) (fun r σ => ∃ I1 : Nat → Nat → Int32, r = none ∧ σ = (nx, sh, xrp P 81 8 none, I1) ∧ xFrm [81, 82, 83, 84, 85, 86, 87, 88, 89, 90, 91, 92, 93, 94, 95] I I1 ∧ I1 81 7 = I 65 7 ∧ I1 81 9 = I 65 9 ∧ (xTb sh P I1 82 83 1 100 n1 ∧ ∀ j, j < 1 * 100 → I1 83 j = I 67 j) ∧ (xTb sh P I1 84 85 8 4 n2 ∧ ∀ j, j < 8 * 4 → I1 85 j = I 69 j) ∧ (xTb sh P I1 86 87 1 5 n3 ∧ ∀ j, j < 1 * 5 → I1 87 j = I 71 j) ∧ (xTb sh P I1 88 89 5 6 n4 ∧ ∀ j, j < 5 * 6 → I1 89 j = I 73 j) ∧ (xTb sh P I1 90 91 3 6 n5 ∧ ∀ j, j < 3 * 6 → I1 91 j = I 75 j) ∧ (xTb sh P I1 92 93 1 6 n6 ∧ ∀ j, j < 1 * 6 → I1 93 j = I 77 j) ∧ (xTb sh P I1 94 95 2 8 n7 ∧ ∀ j, j < 2 * 8 → I1 95 j = I 79 j)) := by
  refine xMet.of [some (.ref 81), some (.ref 65)] (by decide +kernel) (Nat.le_of_ble_eq_true rfl) rfl ?_
  refine x_aload_n dX9_takeOver_0 rfl ?_
  refine y_getr dX9_takeOver_1 F_World_14 (fxo_81 hx) rfl (fxp_81_0 hx) ?_
  refine x_aload_n dX9_takeOver_4 rfl ?_
  refine y_getr dX9_takeOver_5 F_World_14 (fxo_65 hx) rfl (fxp_65_0 hx) ?_
  refine x_callV (k2 := 0) (n2 := 0) dX9_takeOver_8 LV_World_53 (m_Table_takeOver (I := I) d1 s1 (by decide)) rfl rfl (fxo_82 hx) rfl (Nat.le_of_ble_eq_true rfl) (Nat.le_of_ble_eq_true rfl) (Nat.le_of_ble_eq_true rfl) (Nat.le_of_ble_eq_true rfl) ?_
  rintro _ _ ⟨rfl, rfl⟩
  obtain ⟨a1, b1, c1⟩ := tk_tab d1 s1
  generalize xup (va_up I 83 (xTk (I 67) (I 83) (1 * 100))) 82 3 (nI n1) = J1 at a1 b1 c1 ⊢
  have F1 : xFrm [82, 83] I J1 := fun b hb => (c1 b (fun z => hb (by rw [z]; decide)) (fun z => hb (by rw [z]; decide)))
  refine x_aload_n dX9_takeOver_11 rfl ?_
  refine y_getr dX9_takeOver_12 F_World_20 (fxo_81 hx) rfl (fxp_81_1 hx) ?_
  refine x_aload_n dX9_takeOver_15 rfl ?_
  refine y_getr dX9_takeOver_16 F_World_20 (fxo_65 hx) rfl (fxp_65_1 hx) ?_
  refine x_callV (k2 := 0) (n2 := 0) dX9_takeOver_19 LV_World_53 (m_Table_takeOver (I := J1) (d2.other (F1 84 (by decide))) (s2.other (F1 68 (by decide))) (by decide)) rfl rfl (fxo_84 hx) rfl (Nat.le_of_ble_eq_true rfl) (Nat.le_of_ble_eq_true rfl) (Nat.le_of_ble_eq_true rfl) (Nat.le_of_ble_eq_true rfl) ?_
  rintro _ _ ⟨rfl, rfl⟩
  obtain ⟨a2, b2, c2⟩ := tk_tab (d2.other (F1 84 (by decide))) (s2.other (F1 68 (by decide)))
  generalize xup (va_up J1 85 (xTk (J1 69) (J1 85) (8 * 4))) 84 3 (nI n2) = J2 at a2 b2 c2 ⊢
  have F2 : xFrm [82, 83, 84, 85] I J2 := fun b hb => (c2 b (fun z => hb (by rw [z]; decide)) (fun z => hb (by rw [z]; decide))).trans (F1 b (fun z => hb ((by decide : ∀ x ∈ [82, 83], x ∈ [82, 83, 84, 85]) b z)))
  refine x_aload_n dX9_takeOver_22 rfl ?_
  refine y_getr dX9_takeOver_23 F_World_23 (fxo_81 hx) rfl (fxp_81_2 hx) ?_
  refine x_aload_n dX9_takeOver_26 rfl ?_
  refine y_getr dX9_takeOver_27 F_World_23 (fxo_65 hx) rfl (fxp_65_2 hx) ?_
  refine x_callV (k2 := 0) (n2 := 0) dX9_takeOver_30 LV_World_53 (m_Table_takeOver (I := J2) (d3.other (F2 86 (by decide))) (s3.other (F2 70 (by decide))) (by decide)) rfl rfl (fxo_86 hx) rfl (Nat.le_of_ble_eq_true rfl) (Nat.le_of_ble_eq_true rfl) (Nat.le_of_ble_eq_true rfl) (Nat.le_of_ble_eq_true rfl) ?_
  rintro _ _ ⟨rfl, rfl⟩
  obtain ⟨a3, b3, c3⟩ := tk_tab (d3.other (F2 86 (by decide))) (s3.other (F2 70 (by decide)))
  generalize xup (va_up J2 87 (xTk (J2 71) (J2 87) (1 * 5))) 86 3 (nI n3) = J3 at a3 b3 c3 ⊢
  have F3 : xFrm [82, 83, 84, 85, 86, 87] I J3 := fun b hb => (c3 b (fun z => hb (by rw [z]; decide)) (fun z => hb (by rw [z]; decide))).trans (F2 b (fun z => hb ((by decide : ∀ x ∈ [82, 83, 84, 85], x ∈ [82, 83, 84, 85, 86, 87]) b z)))
  refine x_aload_n dX9_takeOver_33 rfl ?_
  refine y_getr dX9_takeOver_34 F_World_26 (fxo_81 hx) rfl (fxp_81_3 hx) ?_
  refine x_aload_n dX9_takeOver_37 rfl ?_
  refine y_getr dX9_takeOver_38 F_World_26 (fxo_65 hx) rfl (fxp_65_3 hx) ?_
  refine x_callV (k2 := 0) (n2 := 0) dX9_takeOver_41 LV_World_53 (m_Table_takeOver (I := J3) (d4.other (F3 88 (by decide))) (s4.other (F3 72 (by decide))) (by decide)) rfl rfl (fxo_88 hx) rfl (Nat.le_of_ble_eq_true rfl) (Nat.le_of_ble_eq_true rfl) (Nat.le_of_ble_eq_true rfl) (Nat.le_of_ble_eq_true rfl) ?_
  rintro _ _ ⟨rfl, rfl⟩
  obtain ⟨a4, b4, c4⟩ := tk_tab (d4.other (F3 88 (by decide))) (s4.other (F3 72 (by decide)))
  generalize xup (va_up J3 89 (xTk (J3 73) (J3 89) (5 * 6))) 88 3 (nI n4) = J4 at a4 b4 c4 ⊢
  have F4 : xFrm [82, 83, 84, 85, 86, 87, 88, 89] I J4 := fun b hb => (c4 b (fun z => hb (by rw [z]; decide)) (fun z => hb (by rw [z]; decide))).trans (F3 b (fun z => hb ((by decide : ∀ x ∈ [82, 83, 84, 85, 86, 87], x ∈ [82, 83, 84, 85, 86, 87, 88, 89]) b z)))
  refine x_aload_n dX9_takeOver_44 rfl ?_
  refine y_getr dX9_takeOver_45 F_World_29 (fxo_81 hx) rfl (fxp_81_4 hx) ?_
  refine x_aload_n dX9_takeOver_48 rfl ?_
  refine y_getr dX9_takeOver_49 F_World_29 (fxo_65 hx) rfl (fxp_65_4 hx) ?_
  refine x_callV (k2 := 0) (n2 := 0) dX9_takeOver_52 LV_World_53 (m_Table_takeOver (I := J4) (d5.other (F4 90 (by decide))) (s5.other (F4 74 (by decide))) (by decide)) rfl rfl (fxo_90 hx) rfl (Nat.le_of_ble_eq_true rfl) (Nat.le_of_ble_eq_true rfl) (Nat.le_of_ble_eq_true rfl) (Nat.le_of_ble_eq_true rfl) ?_
  rintro _ _ ⟨rfl, rfl⟩
  obtain ⟨a5, b5, c5⟩ := tk_tab (d5.other (F4 90 (by decide))) (s5.other (F4 74 (by decide)))
  generalize xup (va_up J4 91 (xTk (J4 75) (J4 91) (3 * 6))) 90 3 (nI n5) = J5 at a5 b5 c5 ⊢
  have F5 : xFrm [82, 83, 84, 85, 86, 87, 88, 89, 90, 91] I J5 := fun b hb => (c5 b (fun z => hb (by rw [z]; decide)) (fun z => hb (by rw [z]; decide))).trans (F4 b (fun z => hb ((by decide : ∀ x ∈ [82, 83, 84, 85, 86, 87, 88, 89], x ∈ [82, 83, 84, 85, 86, 87, 88, 89, 90, 91]) b z)))
  refine x_aload_n dX9_takeOver_55 rfl ?_
  refine y_getr dX9_takeOver_56 F_World_32 (fxo_81 hx) rfl (fxp_81_5 hx) ?_
  refine x_aload_n dX9_takeOver_59 rfl ?_
  refine y_getr dX9_takeOver_60 F_World_32 (fxo_65 hx) rfl (fxp_65_5 hx) ?_
  refine x_callV (k2 := 0) (n2 := 0) dX9_takeOver_63 LV_World_53 (m_Table_takeOver (I := J5) (d6.other (F5 92 (by decide))) (s6.other (F5 76 (by decide))) (by decide)) rfl rfl (fxo_92 hx) rfl (Nat.le_of_ble_eq_true rfl) (Nat.le_of_ble_eq_true rfl) (Nat.le_of_ble_eq_true rfl) (Nat.le_of_ble_eq_true rfl) ?_
  rintro _ _ ⟨rfl, rfl⟩
  obtain ⟨a6, b6, c6⟩ := tk_tab (d6.other (F5 92 (by decide))) (s6.other (F5 76 (by decide)))
  generalize xup (va_up J5 93 (xTk (J5 77) (J5 93) (1 * 6))) 92 3 (nI n6) = J6 at a6 b6 c6 ⊢
  have F6 : xFrm [82, 83, 84, 85, 86, 87, 88, 89, 90, 91, 92, 93] I J6 := fun b hb => (c6 b (fun z => hb (by rw [z]; decide)) (fun z => hb (by rw [z]; decide))).trans (F5 b (fun z => hb ((by decide : ∀ x ∈ [82, 83, 84, 85, 86, 87, 88, 89, 90, 91], x ∈ [82, 83, 84, 85, 86, 87, 88, 89, 90, 91, 92, 93]) b z)))
  refine x_aload_n dX9_takeOver_66 rfl ?_
  refine y_getr dX9_takeOver_67 F_World_35 (fxo_81 hx) rfl (fxp_81_6 hx) ?_
  refine x_aload_n dX9_takeOver_70 rfl ?_
  refine y_getr dX9_takeOver_71 F_World_35 (fxo_65 hx) rfl (fxp_65_6 hx) ?_
  refine x_callV (k2 := 0) (n2 := 0) dX9_takeOver_74 LV_World_53 (m_Table_takeOver (I := J6) (d7.other (F6 94 (by decide))) (s7.other (F6 78 (by decide))) (by decide)) rfl rfl (fxo_94 hx) rfl (Nat.le_of_ble_eq_true rfl) (Nat.le_of_ble_eq_true rfl) (Nat.le_of_ble_eq_true rfl) (Nat.le_of_ble_eq_true rfl) ?_
  rintro _ _ ⟨rfl, rfl⟩
  obtain ⟨a7, b7, c7⟩ := tk_tab (d7.other (F6 94 (by decide))) (s7.other (F6 78 (by decide)))
  generalize xup (va_up J6 95 (xTk (J6 79) (J6 95) (2 * 8))) 94 3 (nI n7) = J7 at a7 b7 c7 ⊢
  have F7 : xFrm [82, 83, 84, 85, 86, 87, 88, 89, 90, 91, 92, 93, 94, 95] I J7 := fun b hb => (c7 b (fun z => hb (by rw [z]; decide)) (fun z => hb (by rw [z]; decide))).trans (F6 b (fun z => hb ((by decide : ∀ x ∈ [82, 83, 84, 85, 86, 87, 88, 89, 90, 91, 92, 93], x ∈ [82, 83, 84, 85, 86, 87, 88, 89, 90, 91, 92, 93, 94, 95]) b z)))
  refine x_aload_n dX9_takeOver_77 rfl ?_
  refine x_aload_n dX9_takeOver_78 rfl ?_
  refine y_geti dX9_takeOver_79 F_World_38 (fxo_65 hx) rfl rfl ?_
  refine x_puti dX9_takeOver_82 F_World_38 T_9_7 (fxo_81 hx) rfl rfl rfl ?_
  refine x_aload_n dX9_takeOver_85 rfl ?_
  refine x_aload_n dX9_takeOver_86 rfl ?_
  refine y_getrN dX9_takeOver_87 F_World_42 (fxo_65 hx) rfl hP8 ?_
  refine x_putrN dX9_takeOver_90 F_World_42 T_9_8 (fxo_81 hx) rfl rfl rfl ?_
  refine x_aload_n dX9_takeOver_93 rfl ?_
  refine x_aload_n dX9_takeOver_94 rfl ?_
  refine y_geti dX9_takeOver_95 F_World_46 (fxo_65 hx) rfl rfl ?_
  refine x_puti dX9_takeOver_98 F_World_46 T_9_9 (fxo_81 hx) rfl rfl rfl ?_
  refine x_return dX9_takeOver_101 rfl ?_
  have G : ∀ b, b ≠ 81 → xup (xup J7 81 7 (J7 65 7)) 81 9 (xup J7 81 7 (J7 65 7) 65 9) b = J7 b := fun b hb => (xup_n hb).trans (xup_n hb)
  have e7 := congrFun (F7 65 (by decide)) 7
  have e9 := congrFun (F7 65 (by decide)) 9
  exact ⟨_, rfl, rfl, xFrs (xFrs (F7.mono (l := [81, 82, 83, 84, 85, 86, 87, 88, 89, 90, 91, 92, 93, 94, 95]))), by rw [xf (by decide), xs]; exact e7, by rw [xs, xo (by decide)]; exact e9, ⟨a1.other (((((((G 82 (by decide)).trans (c7 82 (by decide) (by decide))).trans (c6 82 (by decide) (by decide))).trans (c5 82 (by decide) (by decide))).trans (c4 82 (by decide) (by decide))).trans (c3 82 (by decide) (by decide))).trans (c2 82 (by decide) (by decide))), fun j hj => (congrFun (((((((G 83 (by decide)).trans (c7 83 (by decide) (by decide))).trans (c6 83 (by decide) (by decide))).trans (c5 83 (by decide) (by decide))).trans (c4 83 (by decide) (by decide))).trans (c3 83 (by decide) (by decide))).trans (c2 83 (by decide) (by decide))) j).trans (b1 j hj)⟩, ⟨a2.other ((((((G 84 (by decide)).trans (c7 84 (by decide) (by decide))).trans (c6 84 (by decide) (by decide))).trans (c5 84 (by decide) (by decide))).trans (c4 84 (by decide) (by decide))).trans (c3 84 (by decide) (by decide))), fun j hj => (congrFun ((((((G 85 (by decide)).trans (c7 85 (by decide) (by decide))).trans (c6 85 (by decide) (by decide))).trans (c5 85 (by decide) (by decide))).trans (c4 85 (by decide) (by decide))).trans (c3 85 (by decide) (by decide))) j).trans ((b2 j hj).trans (congrFun (F1 69 (by decide)) j))⟩, ⟨a3.other (((((G 86 (by decide)).trans (c7 86 (by decide) (by decide))).trans (c6 86 (by decide) (by decide))).trans (c5 86 (by decide) (by decide))).trans (c4 86 (by decide) (by decide))), fun j hj => (congrFun (((((G 87 (by decide)).trans (c7 87 (by decide) (by decide))).trans (c6 87 (by decide) (by decide))).trans (c5 87 (by decide) (by decide))).trans (c4 87 (by decide) (by decide))) j).trans ((b3 j hj).trans (congrFun (F2 71 (by decide)) j))⟩, ⟨a4.other ((((G 88 (by decide)).trans (c7 88 (by decide) (by decide))).trans (c6 88 (by decide) (by decide))).trans (c5 88 (by decide) (by decide))), fun j hj => (congrFun ((((G 89 (by decide)).trans (c7 89 (by decide) (by decide))).trans (c6 89 (by decide) (by decide))).trans (c5 89 (by decide) (by decide))) j).trans ((b4 j hj).trans (congrFun (F3 73 (by decide)) j))⟩, ⟨a5.other (((G 90 (by decide)).trans (c7 90 (by decide) (by decide))).trans (c6 90 (by decide) (by decide))), fun j hj => (congrFun (((G 91 (by decide)).trans (c7 91 (by decide) (by decide))).trans (c6 91 (by decide) (by decide))) j).trans ((b5 j hj).trans (congrFun (F4 75 (by decide)) j))⟩, ⟨a6.other ((G 92 (by decide)).trans (c7 92 (by decide) (by decide))), fun j hj => (congrFun ((G 93 (by decide)).trans (c7 93 (by decide) (by decide))) j).trans ((b6 j hj).trans (congrFun (F5 77 (by decide)) j))⟩, ⟨a7.other (G 94 (by decide)), fun j hj => (congrFun (G 95 (by decide)) j).trans ((b7 j hj).trans (congrFun (F6 79 (by decide)) j))⟩⟩

set_option maxHeartbeats 4000000 in
set_option maxRecDepth 100000 in
theorem m_take_65_N {g : xG} {nx : Nat} {sh : Nat → Nat × Nat} {P : Nat → Nat → Option Nat} {I : Nat → Nat → Int32} (hx : xFx sh P) {n1 n2 n3 n4 n5 n6 n7 m1 m2 m3 m4 m5 m6 m7 : Nat} (s1 : xTb sh P I 82 83 1 100 n1) (d1 : xTb sh P I 66 67 1 100 m1) (s2 : xTb sh P I 84 85 8 4 n2) (d2 : xTb sh P I 68 69 8 4 m2) (s3 : xTb sh P I 86 87 1 5 n3) (d3 : xTb sh P I 70 71 1 5 m3) (s4 : xTb sh P I 88 89 5 6 n4) (d4 : xTb sh P I 72 73 5 6 m4) (s5 : xTb sh P I 90 91 3 6 n5) (d5 : xTb sh P I 74 75 3 6 m5) (s6 : xTb sh P I 92 93 1 6 n6) (d6 : xTb sh P I 76 77 1 6 m6) (s7 : xTb sh P I 94 95 2 8 n7) (d7 : xTb sh P I 78 79 2 8 m7) (hP8 : P 81 8 = none) : xMet g Y_World_takeOver 2 0 0 [.ref 65, .ref 81] (nx, sh, P, I) (fun r σ => ∃ I1 : Nat → Nat → Int32, r = none ∧ σ = (nx, sh, xrp P 65 8 none, I1) ∧ xFrm [65, 66, 67, 68, 69, 70, 71, 72, 73, 74, 75, 76, 77, 78, 79] I I1 ∧ I1 65 7 = I 81 7 ∧ I1 65 9 = I 81 9 ∧ (xTb sh P I1 66 67 1 100 n1 ∧ ∀ j, j < 1 * 100 → I1 67 j = I 83 j) ∧ (xTb sh P I1 68 69 8 4 n2 ∧ ∀ j, j < 8 * 4 → I1 69 j = I 85 j) ∧ (xTb sh P I1 70 71 1 5 n3 ∧ ∀ j, j < 1 * 5 → I1 71 j = I 87 j) ∧ (xTb sh P I1 72 73 5 6 n4 ∧ ∀ j, j < 5 * 6 → I1 73 j = I 89 j) ∧ (xTb sh P I1 74 75 3 6 n5 ∧ ∀ j, j < 3 * 6 → I1 75 j = I 91 j) ∧ (xTb sh P I1 76 77 1 6 n6 ∧ ∀ j, j < 1 * 6 → I1 77 j = I 93 j) ∧ (xTb sh P I1 78 79 2 8 n7 ∧ ∀ j, j < 2 * 8 → I1 79 j = I 95 j)) := by
  refine xMet.of [some (.ref 65), some (.ref 81)] (by decide +kernel) (Nat.le_of_ble_eq_true rfl) rfl ?_
  refine x_aload_n dX9_takeOver_0 rfl ?_
  refine y_getr dX9_takeOver_1 F_World_14 (fxo_65 hx) rfl (fxp_65_0 hx) ?_
  refine x_aload_n dX9_takeOver_4 rfl ?_
  refine y_getr dX9_takeOver_5 F_World_14 (fxo_81 hx) rfl (fxp_81_0 hx) ?_
  refine x_callV (k2 := 0) (n2 := 0) dX9_takeOver_8 LV_World_53 (m_Table_takeOver (I := I) d1 s1 (by decide)) rfl rfl (fxo_66 hx) rfl (Nat.le_of_ble_eq_true rfl) (Nat.le_of_ble_eq_true rfl) (Nat.le_of_ble_eq_true rfl) (Nat.le_of_ble_eq_true rfl) ?_
  rintro _ _ ⟨rfl, rfl⟩
  obtain ⟨a1, b1, c1⟩ := tk_tab d1 s1
  generalize xup (va_up I 67 (xTk (I 83) (I 67) (1 * 100))) 66 3 (nI n1) = J1 at a1 b1 c1 ⊢
  have F1 : xFrm [66, 67] I J1 := fun b hb => (c1 b (fun z => hb (by rw [z]; decide)) (fun z => hb (by rw [z]; decide)))
  refine x_aload_n dX9_takeOver_11 rfl ?_
  refine y_getr dX9_takeOver_12 F_World_20 (fxo_65 hx) rfl (fxp_65_1 hx) ?_
  refine x_aload_n dX9_takeOver_15 rfl ?_
  refine y_getr dX9_takeOver_16 F_World_20 (fxo_81 hx) rfl (fxp_81_1 hx) ?_
  refine x_callV (k2 := 0) (n2 := 0) dX9_takeOver_19 LV_World_53 (m_Table_takeOver (I := J1) (d2.other (F1 68 (by decide))) (s2.other (F1 84 (by decide))) (by decide)) rfl rfl (fxo_68 hx) rfl (Nat.le_of_ble_eq_true rfl) (Nat.le_of_ble_eq_true rfl) (Nat.le_of_ble_eq_true rfl) (Nat.le_of_ble_eq_true rfl) ?_
  rintro _ _ ⟨rfl, rfl⟩
  obtain ⟨a2, b2, c2⟩ := tk_tab (d2.other (F1 68 (by decide))) (s2.other (F1 84 (by decide)))
  generalize xup (va_up J1 69 (xTk (J1 85) (J1 69) (8 * 4))) 68 3 (nI n2) = J2 at a2 b2 c2 ⊢
  have F2 : xFrm [66, 67, 68, 69] I J2 := fun b hb => (c2 b (fun z => hb (by rw [z]; decide)) (fun z => hb (by rw [z]; decide))).trans (F1 b (fun z => hb ((by decide : ∀ x ∈ [66, 67], x ∈ [66, 67, 68, 69]) b z)))
  refine x_aload_n dX9_takeOver_22 rfl ?_
  refine y_getr dX9_takeOver_23 F_World_23 (fxo_65 hx) rfl (fxp_65_2 hx) ?_
  refine x_aload_n dX9_takeOver_26 rfl ?_
  refine y_getr dX9_takeOver_27 F_World_23 (fxo_81 hx) rfl (fxp_81_2 hx) ?_
  refine x_callV (k2 := 0) (n2 := 0) dX9_takeOver_30 LV_World_53 (m_Table_takeOver (I := J2) (d3.other (F2 70 (by decide))) (s3.other (F2 86 (by decide))) (by decide)) rfl rfl (fxo_70 hx) rfl (Nat.le_of_ble_eq_true rfl) (Nat.le_of_ble_eq_true rfl) (Nat.le_of_ble_eq_true rfl) (Nat.le_of_ble_eq_true rfl) ?_
  rintro _ _ ⟨rfl, rfl⟩
  obtain ⟨a3, b3, c3⟩ := tk_tab (d3.other (F2 70 (by decide))) (s3.other (F2 86 (by decide)))
  generalize xup (va_up J2 71 (xTk (J2 87) (J2 71) (1 * 5))) 70 3 (nI n3) = J3 at a3 b3 c3 ⊢
  have F3 : xFrm [66, 67, 68, 69, 70, 71] I J3 := fun b hb => (c3 b (fun z => hb (by rw [z]; decide)) (fun z => hb (by rw [z]; decide))).trans (F2 b (fun z => hb ((by decide : ∀ x ∈ [66, 67, 68, 69], x ∈ [66, 67, 68, 69, 70, 71]) b z)))
  refine x_aload_n dX9_takeOver_33 rfl ?_
  refine y_getr dX9_takeOver_34 F_World_26 (fxo_65 hx) rfl (fxp_65_3 hx) ?_
  refine x_aload_n dX9_takeOver_37 rfl ?_
  refine y_getr dX9_takeOver_38 F_World_26 (fxo_81 hx) rfl (fxp_81_3 hx) ?_
  refine x_callV (k2 := 0) (n2 := 0) dX9_takeOver_41 LV_World_53 (m_Table_takeOver (I := J3) (d4.other (F3 72 (by decide))) (s4.other (F3 88 (by decide))) (by decide)) rfl rfl (fxo_72 hx) rfl (Nat.le_of_ble_eq_true rfl) (Nat.le_of_ble_eq_true rfl) (Nat.le_of_ble_eq_true rfl) (Nat.le_of_ble_eq_true rfl) ?_
  rintro _ _ ⟨rfl, rfl⟩
  obtain ⟨a4, b4, c4⟩ := tk_tab (d4.other (F3 72 (by decide))) (s4.other (F3 88 (by decide)))
  generalize xup (va_up J3 73 (xTk (J3 89) (J3 73) (5 * 6))) 72 3 (nI n4) = J4 at a4 b4 c4 ⊢
  have F4 : xFrm [66, 67, 68, 69, 70, 71, 72, 73] I J4 := fun b hb => (c4 b (fun z => hb (by rw [z]; decide)) (fun z => hb (by rw [z]; decide))).trans (F3 b (fun z => hb ((by decide : ∀ x ∈ [66, 67, 68, 69, 70, 71], x ∈ [66, 67, 68, 69, 70, 71, 72, 73]) b z)))
  refine x_aload_n dX9_takeOver_44 rfl ?_
  refine y_getr dX9_takeOver_45 F_World_29 (fxo_65 hx) rfl (fxp_65_4 hx) ?_
  refine x_aload_n dX9_takeOver_48 rfl ?_
  refine y_getr dX9_takeOver_49 F_World_29 (fxo_81 hx) rfl (fxp_81_4 hx) ?_
  refine x_callV (k2 := 0) (n2 := 0) dX9_takeOver_52 LV_World_53 (m_Table_takeOver (I := J4) (d5.other (F4 74 (by decide))) (s5.other (F4 90 (by decide))) (by decide)) rfl rfl (fxo_74 hx) rfl (Nat.le_of_ble_eq_true rfl) (Nat.le_of_ble_eq_true rfl) (Nat.le_of_ble_eq_true rfl) (Nat.le_of_ble_eq_true rfl) ?_
  rintro _ _ ⟨rfl, rfl⟩
  obtain ⟨a5, b5, c5⟩ := tk_tab (d5.other (F4 74 (by decide))) (s5.other (F4 90 (by decide)))
  generalize xup (va_up J4 75 (xTk (J4 91) (J4 75) (3 * 6))) 74 3 (nI n5) = J5 at a5 b5 c5 ⊢
  have F5 : xFrm [66, 67, 68, 69, 70, 71, 72, 73, 74, 75] I J5 := fun b hb => (c5 b (fun z => hb (by rw [z]; decide)) (fun z => hb (by rw [z]; decide))).trans (F4 b (fun z => hb ((by decide : ∀ x ∈ [66, 67, 68, 69, 70, 71, 72, 73], x ∈ [66, 67, 68, 69, 70, 71, 72, 73, 74, 75]) b z)))
  refine x_aload_n dX9_takeOver_55 rfl ?_
  refine y_getr dX9_takeOver_56 F_World_32 (fxo_65 hx) rfl (fxp_65_5 hx) ?_
  refine x_aload_n dX9_takeOver_59 rfl ?_
  refine y_getr dX9_takeOver_60 F_World_32 (fxo_81 hx) rfl (fxp_81_5 hx) ?_
  refine x_callV (k2 := 0) (n2 := 0) dX9_takeOver_63 LV_World_53 (m_Table_takeOver (I := J5) (d6.other (F5 76 (by decide))) (s6.other (F5 92 (by decide))) (by decide)) rfl rfl (fxo_76 hx) rfl (Nat.le_of_ble_eq_true rfl) (Nat.le_of_ble_eq_true rfl) (Nat.le_of_ble_eq_true rfl) (Nat.le_of_ble_eq_true rfl) ?_
  rintro _ _ ⟨rfl, rfl⟩
  obtain ⟨a6, b6, c6⟩ := tk_tab (d6.other (F5 76 (by decide))) (s6.other (F5 92 (by decide)))
  generalize xup (va_up J5 77 (xTk (J5 93) (J5 77) (1 * 6))) 76 3 (nI n6) = J6 at a6 b6 c6 ⊢
  have F6 : xFrm [66, 67, 68, 69, 70, 71, 72, 73, 74, 75, 76, 77] I J6 := fun b hb => (c6 b (fun z => hb (by rw [z]; decide)) (fun z => hb (by rw [z]; decide))).trans (F5 b (fun z => hb ((by decide : ∀ x ∈ [66, 67, 68, 69, 70, 71, 72, 73, 74, 75], x ∈ [66, 67, 68, 69, 70, 71, 72, 73, 74, 75, 76, 77]) b z)))
  refine x_aload_n dX9_takeOver_66 rfl ?_
  refine y_getr dX9_takeOver_67 F_World_35 (fxo_65 hx) rfl (fxp_65_6 hx) ?_
  refine x_aload_n dX9_takeOver_70 rfl ?_
  refine y_getr dX9_takeOver_71 F_World_35 (fxo_81 hx) rfl (fxp_81_6 hx) ?_
  refine x_callV (k2 := 0) (n2 := 0) dX9_takeOver_74 LV_World_53 (m_Table_takeOver (I := J6) (d7.other (F6 78 (by decide))) (s7.other (F6 94 (by decide))) (by decide)) rfl rfl (fxo_78 hx) rfl (Nat.le_of_ble_eq_true rfl) (Nat.le_of_ble_eq_true rfl) (Nat.le_of_ble_eq_true rfl) (Nat.le_of_ble_eq_true rfl) ?_
  rintro _ _ ⟨rfl, rfl⟩
  obtain ⟨a7, b7, c7⟩ := tk_tab (d7.other (F6 78 (by decide))) (s7.other (F6 94 (by decide)))
  generalize xup (va_up J6 79 (xTk (J6 95) (J6 79) (2 * 8))) 78 3 (nI n7) = J7 at a7 b7 c7 ⊢
  have F7 : xFrm [66, 67, 68, 69, 70, 71, 72, 73, 74, 75, 76, 77, 78, 79] I J7 := fun b hb => (c7 b (fun z => hb (by rw [z]; decide)) (fun z => hb (by rw [z]; decide))).trans (F6 b (fun z => hb ((by decide : ∀ x ∈ [66, 67, 68, 69, 70, 71, 72, 73, 74, 75, 76, 77], x ∈ [66, 67, 68, 69, 70, 71, 72, 73, 74, 75, 76, 77, 78, 79]) b z)))
  refine x_aload_n dX9_takeOver_77 rfl ?_
  refine x_aload_n dX9_takeOver_78 rfl ?_
  refine y_geti dX9_takeOver_79 F_World_38 (fxo_81 hx) rfl rfl ?_
  refine x_puti dX9_takeOver_82 F_World_38 T_9_7 (fxo_65 hx) rfl rfl rfl ?_
  refine x_aload_n dX9_takeOver_85 rfl ?_
  refine x_aload_n dX9_takeOver_86 rfl ?_
  refine y_getrN dX9_takeOver_87 F_World_42 (fxo_81 hx) rfl hP8 ?_
  refine x_putrN dX9_takeOver_90 F_World_42 T_9_8 (fxo_65 hx) rfl rfl rfl ?_
  refine x_aload_n dX9_takeOver_93 rfl ?_
  refine x_aload_n dX9_takeOver_94 rfl ?_
  refine y_geti dX9_takeOver_95 F_World_46 (fxo_81 hx) rfl rfl ?_
  refine x_puti dX9_takeOver_98 F_World_46 T_9_9 (fxo_65 hx) rfl rfl rfl ?_
  refine x_return dX9_takeOver_101 rfl ?_
  have G : ∀ b, b ≠ 65 → xup (xup J7 65 7 (J7 81 7)) 65 9 (xup J7 65 7 (J7 81 7) 81 9) b = J7 b := fun b hb => (xup_n hb).trans (xup_n hb)
  have e7 := congrFun (F7 81 (by decide)) 7
  have e9 := congrFun (F7 81 (by decide)) 9
  exact ⟨_, rfl, rfl, xFrs (xFrs (F7.mono (l := [65, 66, 67, 68, 69, 70, 71, 72, 73, 74, 75, 76, 77, 78, 79]))), by rw [xf (by decide), xs]; exact e7, by rw [xs, xo (by decide)]; exact e9, ⟨a1.other (((((((G 66 (by decide)).trans (c7 66 (by decide) (by decide))).trans (c6 66 (by decide) (by decide))).trans (c5 66 (by decide) (by decide))).trans (c4 66 (by decide) (by decide))).trans (c3 66 (by decide) (by decide))).trans (c2 66 (by decide) (by decide))), fun j hj => (congrFun (((((((G 67 (by decide)).trans (c7 67 (by decide) (by decide))).trans (c6 67 (by decide) (by decide))).trans (c5 67 (by decide) (by decide))).trans (c4 67 (by decide) (by decide))).trans (c3 67 (by decide) (by decide))).trans (c2 67 (by decide) (by decide))) j).trans (b1 j hj)⟩, ⟨a2.other ((((((G 68 (by decide)).trans (c7 68 (by decide) (by decide))).trans (c6 68 (by decide) (by decide))).trans (c5 68 (by decide) (by decide))).trans (c4 68 (by decide) (by decide))).trans (c3 68 (by decide) (by decide))), fun j hj => (congrFun ((((((G 69 (by decide)).trans (c7 69 (by decide) (by decide))).trans (c6 69 (by decide) (by decide))).trans (c5 69 (by decide) (by decide))).trans (c4 69 (by decide) (by decide))).trans (c3 69 (by decide) (by decide))) j).trans ((b2 j hj).trans (congrFun (F1 85 (by decide)) j))⟩, ⟨a3.other (((((G 70 (by decide)).trans (c7 70 (by decide) (by decide))).trans (c6 70 (by decide) (by decide))).trans (c5 70 (by decide) (by decide))).trans (c4 70 (by decide) (by decide))), fun j hj => (congrFun (((((G 71 (by decide)).trans (c7 71 (by decide) (by decide))).trans (c6 71 (by decide) (by decide))).trans (c5 71 (by decide) (by decide))).trans (c4 71 (by decide) (by decide))) j).trans ((b3 j hj).trans (congrFun (F2 87 (by decide)) j))⟩, ⟨a4.other ((((G 72 (by decide)).trans (c7 72 (by decide) (by decide))).trans (c6 72 (by decide) (by decide))).trans (c5 72 (by decide) (by decide))), fun j hj => (congrFun ((((G 73 (by decide)).trans (c7 73 (by decide) (by decide))).trans (c6 73 (by decide) (by decide))).trans (c5 73 (by decide) (by decide))) j).trans ((b4 j hj).trans (congrFun (F3 89 (by decide)) j))⟩, ⟨a5.other (((G 74 (by decide)).trans (c7 74 (by decide) (by decide))).trans (c6 74 (by decide) (by decide))), fun j hj => (congrFun (((G 75 (by decide)).trans (c7 75 (by decide) (by decide))).trans (c6 75 (by decide) (by decide))) j).trans ((b5 j hj).trans (congrFun (F4 91 (by decide)) j))⟩, ⟨a6.other ((G 76 (by decide)).trans (c7 76 (by decide) (by decide))), fun j hj => (congrFun ((G 77 (by decide)).trans (c7 77 (by decide) (by decide))) j).trans ((b6 j hj).trans (congrFun (F5 93 (by decide)) j))⟩, ⟨a7.other (G 78 (by decide)), fun j hj => (congrFun (G 79 (by decide)) j).trans ((b7 j hj).trans (congrFun (F6 95 (by decide)) j))⟩⟩

set_option maxHeartbeats 4000000 in
set_option maxRecDepth 100000 in
theorem m_take_81_S {g : xG} {nx : Nat} {sh : Nat → Nat × Nat} {P : Nat → Nat → Option Nat} {I : Nat → Nat → Int32} (hx : xFx sh P) {n1 n2 n3 n4 n5 n6 n7 m1 m2 m3 m4 m5 m6 m7 la : Nat} (s1 : xTb sh P I 66 67 1 100 n1) (d1 : xTb sh P I 82 83 1 100 m1) (s2 : xTb sh P I 68 69 8 4 n2) (d2 : xTb sh P I 84 85 8 4 m2) (s3 : xTb sh P I 70 71 1 5 n3) (d3 : xTb sh P I 86 87 1 5 m3) (s4 : xTb sh P I 72 73 5 6 n4) (d4 : xTb sh P I 88 89 5 6 m4) (s5 : xTb sh P I 74 75 3 6 n5) (d5 : xTb sh P I 90 91 3 6 m5) (s6 : xTb sh P I 76 77 1 6 n6) (d6 : xTb sh P I 92 93 1 6 m6) (s7 : xTb sh P I 78 79 2 8 n7) (d7 : xTb sh P I 94 95 2 8 m7) (hP8 : P 65 8 = (some la)) : xMet g Y_World_takeOver 2 0 0 [.ref 81, .ref 65] (nx, sh, P, I) (fun r σ => ∃ I1 : Nat → Nat → Int32, r = none ∧ σ = (nx, sh, xrp P 81 8 (some la), I1) ∧ xFrm [81, 82, 83, 84, 85, 86, 87, 88, 89, 90, 91, 92, 93, 94, 95] I I1 ∧ I1 81 7 = I 65 7 ∧ I1 81 9 = I 65 9 ∧ (xTb sh P I1 82 83 1 100 n1 ∧ ∀ j, j < 1 * 100 → I1 83 j = I 67 j) ∧ (xTb sh P I1 84 85 8 4 n2 ∧ ∀ j, j < 8 * 4 → I1 85 j = I 69 j) ∧ (xTb sh P I1 86 87 1 5 n3 ∧ ∀ j, j < 1 * 5 → I1 87 j = I 71 j) ∧ (xTb sh P I1 88 89 5 6 n4 ∧ ∀ j, j < 5 * 6 → I1 89 j = I 73 j) ∧ (xTb sh P I1 90 91 3 6 n5 ∧ ∀ j, j < 3 * 6 → I1 91 j = I 75 j) ∧ (xTb sh P I1 92 93 1 6 n6 ∧ ∀ j, j < 1 * 6 → I1 93 j = I 77 j) ∧ (xTb sh P I1 94 95 2 8 n7 ∧ ∀ j, j < 2 * 8 → I1 95 j = I 79 j)) := by
  refine xMet.of [some (.ref 81), some (.ref 65)] (by decide +kernel) (Nat.le_of_ble_eq_true rfl) rfl ?_
  refine x_aload_n dX9_takeOver_0 rfl ?_
  refine y_getr dX9_takeOver_1 F_World_14 (fxo_81 hx) rfl (fxp_81_0 hx) ?_
  refine x_aload_n dX9_takeOver_4 rfl ?_
  refine y_getr dX9_takeOver_5 F_World_14 (fxo_65 hx) rfl (fxp_65_0 hx) ?_
  refine x_callV (k2 := 0) (n2 := 0) dX9_takeOver_8 LV_World_53 (m_Table_takeOver (I := I) d1 s1 (by decide)) rfl rfl (fxo_82 hx) rfl (Nat.le_of_ble_eq_true rfl) (Nat.le_of_ble_eq_true rfl) (Nat.le_of_ble_eq_true rfl) (Nat.le_of_ble_eq_true rfl) ?_
  rintro _ _ ⟨rfl, rfl⟩
  obtain ⟨a1, b1, c1⟩ := tk_tab d1 s1
  generalize xup (va_up I 83 (xTk (I 67) (I 83) (1 * 100))) 82 3 (nI n1) = J1 at a1 b1 c1 ⊢
  have F1 : xFrm [82, 83] I J1 := fun b hb => (c1 b (fun z => hb (by rw [z]; decide)) (fun z => hb (by rw [z]; decide)))
  refine x_aload_n dX9_takeOver_11 rfl ?_
  refine y_getr dX9_takeOver_12 F_World_20 (fxo_81 hx) rfl (fxp_81_1 hx) ?_
  refine x_aload_n dX9_takeOver_15 rfl ?_
  refine y_getr dX9_takeOver_16 F_World_20 (fxo_65 hx) rfl (fxp_65_1 hx) ?_
  refine x_callV (k2 := 0) (n2 := 0) dX9_takeOver_19 LV_World_53 (m_Table_takeOver (I := J1) (d2.other (F1 84 (by decide))) (s2.other (F1 68 (by decide))) (by decide)) rfl rfl (fxo_84 hx) rfl (Nat.le_of_ble_eq_true rfl) (Nat.le_of_ble_eq_true rfl) (Nat.le_of_ble_eq_true rfl) (Nat.le_of_ble_eq_true rfl) ?_
  rintro _ _ ⟨rfl, rfl⟩
  obtain ⟨a2, b2, c2⟩ := tk_tab (d2.other (F1 84 (by decide))) (s2.other (F1 68 (by decide)))
  generalize xup (va_up J1 85 (xTk (J1 69) (J1 85) (8 * 4))) 84 3 (nI n2) = J2 at a2 b2 c2 ⊢
  have F2 : xFrm [82, 83, 84, 85] I J2 := fun b hb => (c2 b (fun z => hb (by rw [z]; decide)) (fun z => hb (by rw [z]; decide))).trans (F1 b (fun z => hb ((by decide : ∀ x ∈ [82, 83], x ∈ [82, 83, 84, 85]) b z)))
  refine x_aload_n dX9_takeOver_22 rfl ?_
  refine y_getr dX9_takeOver_23 F_World_23 (fxo_81 hx) rfl (fxp_81_2 hx) ?_
  refine x_aload_n dX9_takeOver_26 rfl ?_
  refine y_getr dX9_takeOver_27 F_World_23 (fxo_65 hx) rfl (fxp_65_2 hx) ?_
  refine x_callV (k2 := 0) (n2 := 0) dX9_takeOver_30 LV_World_53 (m_Table_takeOver (I := J2) (d3.other (F2 86 (by decide))) (s3.other (F2 70 (by decide))) (by decide)) rfl rfl (fxo_86 hx) rfl (Nat.le_of_ble_eq_true rfl) (Nat.le_of_ble_eq_true rfl) (Nat.le_of_ble_eq_true rfl) (Nat.le_of_ble_eq_true rfl) ?_
  rintro _ _ ⟨rfl, rfl⟩
  obtain ⟨a3, b3, c3⟩ := tk_tab (d3.other (F2 86 (by decide))) (s3.other (F2 70 (by decide)))
  generalize xup (va_up J2 87 (xTk (J2 71) (J2 87) (1 * 5))) 86 3 (nI n3) = J3 at a3 b3 c3 ⊢
  have F3 : xFrm [82, 83, 84, 85, 86, 87] I J3 := fun b hb => (c3 b (fun z => hb (by rw [z]; decide)) (fun z => hb (by rw [z]; decide))).trans (F2 b (fun z => hb ((by decide : ∀ x ∈ [82, 83, 84, 85], x ∈ [82, 83, 84, 85, 86, 87]) b z)))
  refine x_aload_n dX9_takeOver_33 rfl ?_
  refine y_getr dX9_takeOver_34 F_World_26 (fxo_81 hx) rfl (fxp_81_3 hx) ?_
  refine x_aload_n dX9_takeOver_37 rfl ?_
  refine y_getr dX9_takeOver_38 F_World_26 (fxo_65 hx) rfl (fxp_65_3 hx) ?_
  refine x_callV (k2 := 0) (n2 := 0) dX9_takeOver_41 LV_World_53 (m_Table_takeOver (I := J3) (d4.other (F3 88 (by decide))) (s4.other (F3 72 (by decide))) (by decide)) rfl rfl (fxo_88 hx) rfl (Nat.le_of_ble_eq_true rfl) (Nat.le_of_ble_eq_true rfl) (Nat.le_of_ble_eq_true rfl) (Nat.le_of_ble_eq_true rfl) ?_
  rintro _ _ ⟨rfl, rfl⟩
  obtain ⟨a4, b4, c4⟩ := tk_tab (d4.other (F3 88 (by decide))) (s4.other (F3 72 (by decide)))
  generalize xup (va_up J3 89 (xTk (J3 73) (J3 89) (5 * 6))) 88 3 (nI n4) = J4 at a4 b4 c4 ⊢
  have F4 : xFrm [82, 83, 84, 85, 86, 87, 88, 89] I J4 := fun b hb => (c4 b (fun z => hb (by rw [z]; decide)) (fun z => hb (by rw [z]; decide))).trans (F3 b (fun z => hb ((by decide : ∀ x ∈ [82, 83, 84, 85, 86, 87], x ∈ [82, 83, 84, 85, 86, 87, 88, 89]) b z)))
  refine x_aload_n dX9_takeOver_44 rfl ?_
  refine y_getr dX9_takeOver_45 F_World_29 (fxo_81 hx) rfl (fxp_81_4 hx) ?_
  refine x_aload_n dX9_takeOver_48 rfl ?_
  refine y_getr dX9_takeOver_49 F_World_29 (fxo_65 hx) rfl (fxp_65_4 hx) ?_
  refine x_callV (k2 := 0) (n2 := 0) dX9_takeOver_52 LV_World_53 (m_Table_takeOver (I := J4) (d5.other (F4 90 (by decide))) (s5.other (F4 74 (by decide))) (by decide)) rfl rfl (fxo_90 hx) rfl (Nat.le_of_ble_eq_true rfl) (Nat.le_of_ble_eq_true rfl) (Nat.le_of_ble_eq_true rfl) (Nat.le_of_ble_eq_true rfl) ?_
  rintro _ _ ⟨rfl, rfl⟩
  obtain ⟨a5, b5, c5⟩ := tk_tab (d5.other (F4 90 (by decide))) (s5.other (F4 74 (by decide)))
  generalize xup (va_up J4 91 (xTk (J4 75) (J4 91) (3 * 6))) 90 3 (nI n5) = J5 at a5 b5 c5 ⊢
  have F5 : xFrm [82, 83, 84, 85, 86, 87, 88, 89, 90, 91] I J5 := fun b hb => (c5 b (fun z => hb (by rw [z]; decide)) (fun z => hb (by rw [z]; decide))).trans (F4 b (fun z => hb ((by decide : ∀ x ∈ [82, 83, 84, 85, 86, 87, 88, 89], x ∈ [82, 83, 84, 85, 86, 87, 88, 89, 90, 91]) b z)))
  refine x_aload_n dX9_takeOver_55 rfl ?_
  refine y_getr dX9_takeOver_56 F_World_32 (fxo_81 hx) rfl (fxp_81_5 hx) ?_
  refine x_aload_n dX9_takeOver_59 rfl ?_
  refine y_getr dX9_takeOver_60 F_World_32 (fxo_65 hx) rfl (fxp_65_5 hx) ?_
  refine x_callV (k2 := 0) (n2 := 0) dX9_takeOver_63 LV_World_53 (m_Table_takeOver (I := J5) (d6.other (F5 92 (by decide))) (s6.other (F5 76 (by decide))) (by decide)) rfl rfl (fxo_92 hx) rfl (Nat.le_of_ble_eq_true rfl) (Nat.le_of_ble_eq_true rfl) (Nat.le_of_ble_eq_true rfl) (Nat.le_of_ble_eq_true rfl) ?_
  rintro _ _ ⟨rfl, rfl⟩
  obtain ⟨a6, b6, c6⟩ := tk_tab (d6.other (F5 92 (by decide))) (s6.other (F5 76 (by decide)))
  generalize xup (va_up J5 93 (xTk (J5 77) (J5 93) (1 * 6))) 92 3 (nI n6) = J6 at a6 b6 c6 ⊢
  have F6 : xFrm [82, 83, 84, 85, 86, 87, 88, 89, 90, 91, 92, 93] I J6 := fun b hb => (c6 b (fun z => hb (by rw [z]; decide)) (fun z => hb (by rw [z]; decide))).trans (F5 b (fun z => hb ((by decide : ∀ x ∈ [82, 83, 84, 85, 86, 87, 88, 89, 90, 91], x ∈ [82, 83, 84, 85, 86, 87, 88, 89, 90, 91, 92, 93]) b z)))
  refine x_aload_n dX9_takeOver_66 rfl ?_
  refine y_getr dX9_takeOver_67 F_World_35 (fxo_81 hx) rfl (fxp_81_6 hx) ?_
  refine x_aload_n dX9_takeOver_70 rfl ?_
  refine y_getr dX9_takeOver_71 F_World_35 (fxo_65 hx) rfl (fxp_65_6 hx) ?_
  refine x_callV (k2 := 0) (n2 := 0) dX9_takeOver_74 LV_World_53 (m_Table_takeOver (I := J6) (d7.other (F6 94 (by decide))) (s7.other (F6 78 (by decide))) (by decide)) rfl rfl (fxo_94 hx) rfl (Nat.le_of_ble_eq_true rfl) (Nat.le_of_ble_eq_true rfl) (Nat.le_of_ble_eq_true rfl) (Nat.le_of_ble_eq_true rfl) ?_
  rintro _ _ ⟨rfl, rfl⟩
  obtain ⟨a7, b7, c7⟩ := tk_tab (d7.other (F6 94 (by decide))) (s7.other (F6 78 (by decide)))
  generalize xup (va_up J6 95 (xTk (J6 79) (J6 95) (2 * 8))) 94 3 (nI n7) = J7 at a7 b7 c7 ⊢
  have F7 : xFrm [82, 83, 84, 85, 86, 87, 88, 89, 90, 91, 92, 93, 94, 95] I J7 := fun b hb => (c7 b (fun z => hb (by rw [z]; decide)) (fun z => hb (by rw [z]; decide))).trans (F6 b (fun z => hb ((by decide : ∀ x ∈ [82, 83, 84, 85, 86, 87, 88, 89, 90, 91, 92, 93], x ∈ [82, 83, 84, 85, 86, 87, 88, 89, 90, 91, 92, 93, 94, 95]) b z)))
  refine x_aload_n dX9_takeOver_77 rfl ?_
  refine x_aload_n dX9_takeOver_78 rfl ?_
  refine y_geti dX9_takeOver_79 F_World_38 (fxo_65 hx) rfl rfl ?_
  refine x_puti dX9_takeOver_82 F_World_38 T_9_7 (fxo_81 hx) rfl rfl rfl ?_
  refine x_aload_n dX9_takeOver_85 rfl ?_
  refine x_aload_n dX9_takeOver_86 rfl ?_
  refine y_getr dX9_takeOver_87 F_World_42 (fxo_65 hx) rfl hP8 ?_
  refine x_putr dX9_takeOver_90 F_World_42 T_9_8 (fxo_81 hx) rfl (fun _ => rfl) (fun _ => rfl) ?_
  refine x_aload_n dX9_takeOver_93 rfl ?_
  refine x_aload_n dX9_takeOver_94 rfl ?_
  refine y_geti dX9_takeOver_95 F_World_46 (fxo_65 hx) rfl rfl ?_
  refine x_puti dX9_takeOver_98 F_World_46 T_9_9 (fxo_81 hx) rfl rfl rfl ?_
  refine x_return dX9_takeOver_101 rfl ?_
  have G : ∀ b, b ≠ 81 → xup (xup J7 81 7 (J7 65 7)) 81 9 (xup J7 81 7 (J7 65 7) 65 9) b = J7 b := fun b hb => (xup_n hb).trans (xup_n hb)
  have e7 := congrFun (F7 65 (by decide)) 7
  have e9 := congrFun (F7 65 (by decide)) 9
  exact ⟨_, rfl, rfl, xFrs (xFrs (F7.mono (l := [81, 82, 83, 84, 85, 86, 87, 88, 89, 90, 91, 92, 93, 94, 95]))), by rw [xf (by decide), xs]; exact e7, by rw [xs, xo (by decide)]; exact e9, ⟨a1.other (((((((G 82 (by decide)).trans (c7 82 (by decide) (by decide))).trans (c6 82 (by decide) (by decide))).trans (c5 82 (by decide) (by decide))).trans (c4 82 (by decide) (by decide))).trans (c3 82 (by decide) (by decide))).trans (c2 82 (by decide) (by decide))), fun j hj => (congrFun (((((((G 83 (by decide)).trans (c7 83 (by decide) (by decide))).trans (c6 83 (by decide) (by decide))).trans (c5 83 (by decide) (by decide))).trans (c4 83 (by decide) (by decide))).trans (c3 83 (by decide) (by decide))).trans (c2 83 (by decide) (by decide))) j).trans (b1 j hj)⟩, ⟨a2.other ((((((G 84 (by decide)).trans (c7 84 (by decide) (by decide))).trans (c6 84 (by decide) (by decide))).trans (c5 84 (by decide) (by decide))).trans (c4 84 (by decide) (by decide))).trans (c3 84 (by decide) (by decide))), fun j hj => (congrFun ((((((G 85 (by decide)).trans (c7 85 (by decide) (by decide))).trans (c6 85 (by decide) (by decide))).trans (c5 85 (by decide) (by decide))).trans (c4 85 (by decide) (by decide))).trans (c3 85 (by decide) (by decide))) j).trans ((b2 j hj).trans (congrFun (F1 69 (by decide)) j))⟩, ⟨a3.other (((((G 86 (by decide)).trans (c7 86 (by decide) (by decide))).trans (c6 86 (by decide) (by decide))).trans (c5 86 (by decide) (by decide))).trans (c4 86 (by decide) (by decide))), fun j hj => (congrFun (((((G 87 (by decide)).trans (c7 87 (by decide) (by decide))).trans (c6 87 (by decide) (by decide))).trans (c5 87 (by decide) (by decide))).trans (c4 87 (by decide) (by decide))) j).trans ((b3 j hj).trans (congrFun (F2 71 (by decide)) j))⟩, ⟨a4.other ((((G 88 (by decide)).trans (c7 88 (by decide) (by decide))).trans (c6 88 (by decide) (by decide))).trans (c5 88 (by decide) (by decide))), fun j hj => (congrFun ((((G 89 (by decide)).trans (c7 89 (by decide) (by decide))).trans (c6 89 (by decide) (by decide))).trans (c5 89 (by decide) (by decide))) j).trans ((b4 j hj).trans (congrFun (F3 73 (by decide)) j))⟩, ⟨a5.other (((G 90 (by decide)).trans (c7 90 (by decide) (by decide))).trans (c6 90 (by decide) (by decide))), fun j hj => (congrFun (((G 91 (by decide)).trans (c7 91 (by decide) (by decide))).trans (c6 91 (by decide) (by decide))) j).trans ((b5 j hj).trans (congrFun (F4 75 (by decide)) j))⟩, ⟨a6.other ((G 92 (by decide)).trans (c7 92 (by decide) (by decide))), fun j hj => (congrFun ((G 93 (by decide)).trans (c7 93 (by decide) (by decide))) j).trans ((b6 j hj).trans (congrFun (F5 77 (by decide)) j))⟩, ⟨a7.other (G 94 (by decide)), fun j hj => (congrFun (G 95 (by decide)) j).trans ((b7 j hj).trans (congrFun (F6 79 (by decide)) j))⟩⟩

set_option maxHeartbeats 4000000 in
set_option maxRecDepth 100000 in
theorem m_take_65_S {g : xG} {nx : Nat} {sh : Nat → Nat × Nat} {P : Nat → Nat → Option Nat} {I : Nat → Nat → Int32} (hx : xFx sh P) {n1 n2 n3 n4 n5 n6 n7 m1 m2 m3 m4 m5 m6 m7 la : Nat} (s1 : xTb sh P I 82 83 1 100 n1) (d1 : xTb sh P I 66 67 1 100 m1) (s2 : xTb sh P I 84 85 8 4 n2) (d2 : xTb sh P I 68 69 8 4 m2) (s3 : xTb sh P I 86 87 1 5 n3) (d3 : xTb sh P I 70 71 1 5 m3) (s4 : xTb sh P I 88 89 5 6 n4) (d4 : xTb sh P I 72 73 5 6 m4) (s5 : xTb sh P I 90 91 3 6 n5) (d5 : xTb sh P I 74 75 3 6 m5) (s6 : xTb sh P I 92 93 1 6 n6) (d6 : xTb sh P I 76 77 1 6 m6) (s7 : xTb sh P I 94 95 2 8 n7) (d7 : xTb sh P I 78 79 2 8 m7) (hP8 : P 81 8 = (some la)) : xMet g Y_World_takeOver 2 0 0 [.ref 65, .ref 81] (nx, sh, P, I) (fun r σ => ∃ I1 : Nat → Nat → Int32, r = none ∧ σ = (nx, sh, xrp P 65 8 (some la), I1) ∧ xFrm [65, 66, 67, 68, 69, 70, 71, 72, 73, 74, 75, 76, 77, 78, 79] I I1 ∧ I1 65 7 = I 81 7 ∧ I1 65 9 = I 81 9 ∧ (xTb sh P I1 66 67 1 100 n1 ∧ ∀ j, j < 1 * 100 → I1 67 j = I 83 j) ∧ (xTb sh P I1 68 69 8 4 n2 ∧ ∀ j, j < 8 * 4 → I1 69 j = I 85 j) ∧ (xTb sh P I1 70 71 1 5 n3 ∧ ∀ j, j < 1 * 5 → I1 71 j = I 87 j) ∧ (xTb sh P I1 72 73 5 6 n4 ∧ ∀ j, j < 5 * 6 → I1 73 j = I 89 j) ∧ (xTb sh P I1 74 75 3 6 n5 ∧ ∀ j, j < 3 * 6 → I1 75 j = I 91 j) ∧ (xTb sh P I1 76 77 1 6 n6 ∧ ∀ j, j < 1 * 6 → I1 77 j = I 93 j) ∧ (xTb sh P I1 78 79 2 8 n7 ∧ ∀ j, j < 2 * 8 → I1 79 j = I 95 j)) := by
  refine xMet.of [some (.ref 65), some (.ref 81)] (by decide +kernel) (Nat.le_of_ble_eq_true rfl) rfl ?_
  refine x_aload_n dX9_takeOver_0 rfl ?_
  refine y_getr dX9_takeOver_1 F_World_14 (fxo_65 hx) rfl (fxp_65_0 hx) ?_
  refine x_aload_n dX9_takeOver_4 rfl ?_
  refine y_getr dX9_takeOver_5 F_World_14 (fxo_81 hx) rfl (fxp_81_0 hx) ?_
  refine x_callV (k2 := 0) (n2 := 0) dX9_takeOver_8 LV_World_53 (m_Table_takeOver (I := I) d1 s1 (by decide)) rfl rfl (fxo_66 hx) rfl (Nat.le_of_ble_eq_true rfl) (Nat.le_of_ble_eq_true rfl) (Nat.le_of_ble_eq_true rfl) (Nat.le_of_ble_eq_true rfl) ?_
  rintro _ _ ⟨rfl, rfl⟩
  obtain ⟨a1, b1, c1⟩ := tk_tab d1 s1
  generalize xup (va_up I 67 (xTk (I 83) (I 67) (1 * 100))) 66 3 (nI n1) = J1 at a1 b1 c1 ⊢
  have F1 : xFrm [66, 67] I J1 := fun b hb => (c1 b (fun z => hb (by rw [z]; decide)) (fun z => hb (by rw [z]; decide)))
  refine x_aload_n dX9_takeOver_11 rfl ?_
  refine y_getr dX9_takeOver_12 F_World_20 (fxo_65 hx) rfl (fxp_65_1 hx) ?_
  refine x_aload_n dX9_takeOver_15 rfl ?_
  refine y_getr dX9_takeOver_16 F_World_20 (fxo_81 hx) rfl (fxp_81_1 hx) ?_
  refine x_callV (k2 := 0) (n2 := 0) dX9_takeOver_19 LV_World_53 (m_Table_takeOver (I := J1) (d2.other (F1 68 (by decide))) (s2.other (F1 84 (by decide))) (by decide)) rfl rfl (fxo_68 hx) rfl (Nat.le_of_ble_eq_true rfl) (Nat.le_of_ble_eq_true rfl) (Nat.le_of_ble_eq_true rfl) (Nat.le_of_ble_eq_true rfl) ?_
  rintro _ _ ⟨rfl, rfl⟩
  obtain ⟨a2, b2, c2⟩ := tk_tab (d2.other (F1 68 (by decide))) (s2.other (F1 84 (by decide)))
  generalize xup (va_up J1 69 (xTk (J1 85) (J1 69) (8 * 4))) 68 3 (nI n2) = J2 at a2 b2 c2 ⊢
  have F2 : xFrm [66, 67, 68, 69] I J2 := fun b hb => (c2 b (fun z => hb (by rw [z]; decide)) (fun z => hb (by rw [z]; decide))).trans (F1 b (fun z => hb ((by decide : ∀ x ∈ [66, 67], x ∈ [66, 67, 68, 69]) b z)))
  refine x_aload_n dX9_takeOver_22 rfl ?_
  refine y_getr dX9_takeOver_23 F_World_23 (fxo_65 hx) rfl (fxp_65_2 hx) ?_
  refine x_aload_n dX9_takeOver_26 rfl ?_
  refine y_getr dX9_takeOver_27 F_World_23 (fxo_81 hx) rfl (fxp_81_2 hx) ?_
  refine x_callV (k2 := 0) (n2 := 0) dX9_takeOver_30 LV_World_53 (m_Table_takeOver (I := J2) (d3.other (F2 70 (by decide))) (s3.other (F2 86 (by decide))) (by decide)) rfl rfl (fxo_70 hx) rfl (Nat.le_of_ble_eq_true rfl) (Nat.le_of_ble_eq_true rfl) (Nat.le_of_ble_eq_true rfl) (Nat.le_of_ble_eq_true rfl) ?_
  rintro _ _ ⟨rfl, rfl⟩
  obtain ⟨a3, b3, c3⟩ := tk_tab (d3.other (F2 70 (by decide))) (s3.other (F2 86 (by decide)))
  generalize xup (va_up J2 71 (xTk (J2 87) (J2 71) (1 * 5))) 70 3 (nI n3) = J3 at a3 b3 c3 ⊢
  have F3 : xFrm [66, 67, 68, 69, 70, 71] I J3 := fun b hb => (c3 b (fun z => hb (by rw [z]; decide)) (fun z => hb (by rw [z]; decide))).trans (F2 b (fun z => hb ((by decide : ∀ x ∈ [66, 67, 68, 69], x ∈ [66, 67, 68, 69, 70, 71]) b z)))
  refine x_aload_n dX9_takeOver_33 rfl ?_
  refine y_getr dX9_takeOver_34 F_World_26 (fxo_65 hx) rfl (fxp_65_3 hx) ?_
  refine x_aload_n dX9_takeOver_37 rfl ?_
  refine y_getr dX9_takeOver_38 F_World_26 (fxo_81 hx) rfl (fxp_81_3 hx) ?_
  refine x_callV (k2 := 0) (n2 := 0) dX9_takeOver_41 LV_World_53 (m_Table_takeOver (I := J3) (d4.other (F3 72 (by decide))) (s4.other (F3 88 (by decide))) (by decide)) rfl rfl (fxo_72 hx) rfl (Nat.le_of_ble_eq_true rfl) (Nat.le_of_ble_eq_true rfl) (Nat.le_of_ble_eq_true rfl) (Nat.le_of_ble_eq_true rfl) ?_
  rintro _ _ ⟨rfl, rfl⟩
  obtain ⟨a4, b4, c4⟩ := tk_tab (d4.other (F3 72 (by decide))) (s4.other (F3 88 (by decide)))
  generalize xup (va_up J3 73 (xTk (J3 89) (J3 73) (5 * 6))) 72 3 (nI n4) = J4 at a4 b4 c4 ⊢
  have F4 : xFrm [66, 67, 68, 69, 70, 71, 72, 73] I J4 := fun b hb => (c4 b (fun z => hb (by rw [z]; decide)) (fun z => hb (by rw [z]; decide))).trans (F3 b (fun z => hb ((by decide : ∀ x ∈ [66, 67, 68, 69, 70, 71], x ∈ [66, 67, 68, 69, 70, 71, 72, 73]) b z)))
  refine x_aload_n dX9_takeOver_44 rfl ?_
  refine y_getr dX9_takeOver_45 F_World_29 (fxo_65 hx) rfl (fxp_65_4 hx) ?_
  refine x_aload_n dX9_takeOver_48 rfl ?_
  refine y_getr dX9_takeOver_49 F_World_29 (fxo_81 hx) rfl (fxp_81_4 hx) ?_
  refine x_callV (k2 := 0) (n2 := 0) dX9_takeOver_52 LV_World_53 (m_Table_takeOver (I := J4) (d5.other (F4 74 (by decide))) (s5.other (F4 90 (by decide))) (by decide)) rfl rfl (fxo_74 hx) rfl (Nat.le_of_ble_eq_true rfl) (Nat.le_of_ble_eq_true rfl) (Nat.le_of_ble_eq_true rfl) (Nat.le_of_ble_eq_true rfl) ?_
  rintro _ _ ⟨rfl, rfl⟩
  obtain ⟨a5, b5, c5⟩ := tk_tab (d5.other (F4 74 (by decide))) (s5.other (F4 90 (by decide)))
  generalize xup (va_up J4 75 (xTk (J4 91) (J4 75) (3 * 6))) 74 3 (nI n5) = J5 at a5 b5 c5 ⊢
  have F5 : xFrm [66, 67, 68, 69, 70, 71, 72, 73, 74, 75] I J5 := fun b hb => (c5 b (fun z => hb (by rw [z]; decide)) (fun z => hb (by rw [z]; decide))).trans (F4 b (fun z => hb ((by decide : ∀ x ∈ [66, 67, 68, 69, 70, 71, 72, 73], x ∈ [66, 67, 68, 69, 70, 71, 72, 73, 74, 75]) b z)))
  refine x_aload_n dX9_takeOver_55 rfl ?_
  refine y_getr dX9_takeOver_56 F_World_32 (fxo_65 hx) rfl (fxp_65_5 hx) ?_
  refine x_aload_n dX9_takeOver_59 rfl ?_
  refine y_getr dX9_takeOver_60 F_World_32 (fxo_81 hx) rfl (fxp_81_5 hx) ?_
  refine x_callV (k2 := 0) (n2 := 0) dX9_takeOver_63 LV_World_53 (m_Table_takeOver (I := J5) (d6.other (F5 76 (by decide))) (s6.other (F5 92 (by decide))) (by decide)) rfl rfl (fxo_76 hx) rfl (Nat.le_of_ble_eq_true rfl) (Nat.le_of_ble_eq_true rfl) (Nat.le_of_ble_eq_true rfl) (Nat.le_of_ble_eq_true rfl) ?_
  rintro _ _ ⟨rfl, rfl⟩
  obtain ⟨a6, b6, c6⟩ := tk_tab (d6.other (F5 76 (by decide))) (s6.other (F5 92 (by decide)))
  generalize xup (va_up J5 77 (xTk (J5 93) (J5 77) (1 * 6))) 76 3 (nI n6) = J6 at a6 b6 c6 ⊢
  have F6 : xFrm [66, 67, 68, 69, 70, 71, 72, 73, 74, 75, 76, 77] I J6 := fun b hb => (c6 b (fun z => hb (by rw [z]; decide)) (fun z => hb (by rw [z]; decide))).trans (F5 b (fun z => hb ((by decide : ∀ x ∈ [66, 67, 68, 69, 70, 71, 72, 73, 74, 75], x ∈ [66, 67, 68, 69, 70, 71, 72, 73, 74, 75, 76, 77]) b z)))
  refine x_aload_n dX9_takeOver_66 rfl ?_
  refine y_getr dX9_takeOver_67 F_World_35 (fxo_65 hx) rfl (fxp_65_6 hx) ?_
  refine x_aload_n dX9_takeOver_70 rfl ?_
  refine y_getr dX9_takeOver_71 F_World_35 (fxo_81 hx) rfl (fxp_81_6 hx) ?_
  refine x_callV (k2 := 0) (n2 := 0) dX9_takeOver_74 LV_World_53 (m_Table_takeOver (I := J6) (d7.other (F6 78 (by decide))) (s7.other (F6 94 (by decide))) (by decide)) rfl rfl (fxo_78 hx) rfl (Nat.le_of_ble_eq_true rfl) (Nat.le_of_ble_eq_true rfl) (Nat.le_of_ble_eq_true rfl) (Nat.le_of_ble_eq_true rfl) ?_
  rintro _ _ ⟨rfl, rfl⟩
  obtain ⟨a7, b7, c7⟩ := tk_tab (d7.other (F6 78 (by decide))) (s7.other (F6 94 (by decide)))
  generalize xup (va_up J6 79 (xTk (J6 95) (J6 79) (2 * 8))) 78 3 (nI n7) = J7 at a7 b7 c7 ⊢
  have F7 : xFrm [66, 67, 68, 69, 70, 71, 72, 73, 74, 75, 76, 77, 78, 79] I J7 := fun b hb => (c7 b (fun z => hb (by rw [z]; decide)) (fun z => hb (by rw [z]; decide))).trans (F6 b (fun z => hb ((by decide : ∀ x ∈ [66, 67, 68, 69, 70, 71, 72, 73, 74, 75, 76, 77], x ∈ [66, 67, 68, 69, 70, 71, 72, 73, 74, 75, 76, 77, 78, 79]) b z)))
  refine x_aload_n dX9_takeOver_77 rfl ?_
  refine x_aload_n dX9_takeOver_78 rfl ?_
  refine y_geti dX9_takeOver_79 F_World_38 (fxo_81 hx) rfl rfl ?_
  refine x_puti dX9_takeOver_82 F_World_38 T_9_7 (fxo_65 hx) rfl rfl rfl ?_
  refine x_aload_n dX9_takeOver_85 rfl ?_
  refine x_aload_n dX9_takeOver_86 rfl ?_
  refine y_getr dX9_takeOver_87 F_World_42 (fxo_81 hx) rfl hP8 ?_
  refine x_putr dX9_takeOver_90 F_World_42 T_9_8 (fxo_65 hx) rfl (fun _ => rfl) (fun _ => rfl) ?_
  refine x_aload_n dX9_takeOver_93 rfl ?_
  refine x_aload_n dX9_takeOver_94 rfl ?_
  refine y_geti dX9_takeOver_95 F_World_46 (fxo_81 hx) rfl rfl ?_
  refine x_puti dX9_takeOver_98 F_World_46 T_9_9 (fxo_65 hx) rfl rfl rfl ?_
  refine x_return dX9_takeOver_101 rfl ?_
  have G : ∀ b, b ≠ 65 → xup (xup J7 65 7 (J7 81 7)) 65 9 (xup J7 65 7 (J7 81 7) 81 9) b = J7 b := fun b hb => (xup_n hb).trans (xup_n hb)
  have e7 := congrFun (F7 81 (by decide)) 7
  have e9 := congrFun (F7 81 (by decide)) 9
  exact ⟨_, rfl, rfl, xFrs (xFrs (F7.mono (l := [65, 66, 67, 68, 69, 70, 71, 72, 73, 74, 75, 76, 77, 78, 79]))), by rw [xf (by decide), xs]; exact e7, by rw [xs, xo (by decide)]; exact e9, ⟨a1.other (((((((G 66 (by decide)).trans (c7 66 (by decide) (by decide))).trans (c6 66 (by decide) (by decide))).trans (c5 66 (by decide) (by decide))).trans (c4 66 (by decide) (by decide))).trans (c3 66 (by decide) (by decide))).trans (c2 66 (by decide) (by decide))), fun j hj => (congrFun (((((((G 67 (by decide)).trans (c7 67 (by decide) (by decide))).trans (c6 67 (by decide) (by decide))).trans (c5 67 (by decide) (by decide))).trans (c4 67 (by decide) (by decide))).trans (c3 67 (by decide) (by decide))).trans (c2 67 (by decide) (by decide))) j).trans (b1 j hj)⟩, ⟨a2.other ((((((G 68 (by decide)).trans (c7 68 (by decide) (by decide))).trans (c6 68 (by decide) (by decide))).trans (c5 68 (by decide) (by decide))).trans (c4 68 (by decide) (by decide))).trans (c3 68 (by decide) (by decide))), fun j hj => (congrFun ((((((G 69 (by decide)).trans (c7 69 (by decide) (by decide))).trans (c6 69 (by decide) (by decide))).trans (c5 69 (by decide) (by decide))).trans (c4 69 (by decide) (by decide))).trans (c3 69 (by decide) (by decide))) j).trans ((b2 j hj).trans (congrFun (F1 85 (by decide)) j))⟩, ⟨a3.other (((((G 70 (by decide)).trans (c7 70 (by decide) (by decide))).trans (c6 70 (by decide) (by decide))).trans (c5 70 (by decide) (by decide))).trans (c4 70 (by decide) (by decide))), fun j hj => (congrFun (((((G 71 (by decide)).trans (c7 71 (by decide) (by decide))).trans (c6 71 (by decide) (by decide))).trans (c5 71 (by decide) (by decide))).trans (c4 71 (by decide) (by decide))) j).trans ((b3 j hj).trans (congrFun (F2 87 (by decide)) j))⟩, ⟨a4.other ((((G 72 (by decide)).trans (c7 72 (by decide) (by decide))).trans (c6 72 (by decide) (by decide))).trans (c5 72 (by decide) (by decide))), fun j hj => (congrFun ((((G 73 (by decide)).trans (c7 73 (by decide) (by decide))).trans (c6 73 (by decide) (by decide))).trans (c5 73 (by decide) (by decide))) j).trans ((b4 j hj).trans (congrFun (F3 89 (by decide)) j))⟩, ⟨a5.other (((G 74 (by decide)).trans (c7 74 (by decide) (by decide))).trans (c6 74 (by decide) (by decide))), fun j hj => (congrFun (((G 75 (by decide)).trans (c7 75 (by decide) (by decide))).trans (c6 75 (by decide) (by decide))) j).trans ((b5 j hj).trans (congrFun (F4 91 (by decide)) j))⟩, ⟨a6.other ((G 76 (by decide)).trans (c7 76 (by decide) (by decide))), fun j hj => (congrFun ((G 77 (by decide)).trans (c7 77 (by decide) (by decide))) j).trans ((b6 j hj).trans (congrFun (F5 93 (by decide)) j))⟩, ⟨a7.other (G 78 (by decide)), fun j hj => (congrFun (G 79 (by decide)) j).trans ((b7 j hj).trans (congrFun (F6 95 (by decide)) j))⟩⟩
