/-! the class: a new land, a new clause -/
set_option maxHeartbeats 4000000 in
set_option maxRecDepth 100000 in
theorem m_Clause_init {g : xG} {nx : Nat} {sh : Nat → Nat × Nat} {P : Nat → Nat → Option Nat} {I : Nat → Nat → Int32} {cl co : Nat} {w v : Int32} (hcl : (sh cl).1 = 2) : xMet g Y_Clause_init 1 0 0 [.ref cl, .int w, .int v, .ref co] (nx, sh, P, I) (fun r σ => r = none ∧ σ = (nx, sh, xrp P cl 2 (some co), xup (xup I cl 0 w) cl 1 v)) := by
  refine xMet.of [some (.ref cl), some (.int w), some (.int v), some (.ref co)] (by decide +kernel) (Nat.le_of_ble_eq_true rfl) rfl ?_
  refine x_aload_n dX2_init_0 rfl ?_
  refine x_objInit dX2_init_1 OI_Clause_3 OI_inst OI_code (Nat.le_of_ble_eq_true rfl) (Nat.le_of_ble_eq_true rfl) ?_
  refine x_aload_n dX2_init_4 rfl ?_
  refine x_iload_n dX2_init_5 rfl ?_
  refine x_putiF dX2_init_6 F_Clause_9 T_2_0 rfl rfl hcl rfl rfl rfl ?_
  refine x_aload_n dX2_init_9 rfl ?_
  refine x_iload_n dX2_init_10 rfl ?_
  refine x_putiF dX2_init_11 F_Clause_15 T_2_1 rfl rfl hcl rfl rfl rfl ?_
  refine x_aload_n dX2_init_14 rfl ?_
  refine x_aload_n dX2_init_15 rfl ?_
  refine x_putrF dX2_init_16 F_Clause_18 T_2_2 rfl rfl hcl rfl (fun _ => rfl) (fun _ => rfl) ?_
  refine x_return dX2_init_19 rfl ?_
  exact ⟨rfl, rfl⟩

set_option maxHeartbeats 4000000 in
set_option maxRecDepth 100000 in
theorem m_Land_init {g : xG} {nx : Nat} {sh : Nat → Nat × Nat} {P : Nat → Nat → Option Nat} {I : Nat → Nat → Int32} {la : Nat} (hla : (sh la).1 = 4) (hne : la ≠ nx) : xMet g Y_Land_init 1 1 10 [.ref la] (nx, sh, P, I) (fun r σ => r = none ∧ σ = (nx + 1, va_up sh nx (14, 10), xrp (va_up P nx (fun _ => none)) la 0 (some nx), xup (va_up I nx (fun _ => 0)) la 1 0)) := by
  refine xMet.of [some (.ref la)] (by decide +kernel) (Nat.le_of_ble_eq_true rfl) rfl ?_
  have hl2 : (va_up sh nx (14, 10) la).1 = 4 := by unfold va_up; rw [if_neg hne]; exact hla
  refine x_aload_n dX4_init_0 rfl ?_
  refine x_objInit dX4_init_1 OI_Land_3 OI_inst OI_code (Nat.le_of_ble_eq_true rfl) (Nat.le_of_ble_eq_true rfl) ?_
  refine x_aload_n dX4_init_4 rfl ?_
  refine x_bipush (v := 10) dX4_init_5 (by decide) ?_
  refine x_anew (k2 := 0) (n2 := 0) (len := 10) dX4_init_7 NA_Land_9 (by decide) rfl (by decide) (Nat.le_of_ble_eq_true rfl) (Nat.le_of_ble_eq_true rfl) ?_
  refine x_putrF dX4_init_10 F_Land_11 T_4_0 rfl rfl hl2 rfl (fun _ => rfl) (fun _ => rfl) ?_
  refine x_aload_n dX4_init_13 rfl ?_
  refine x_iconst (v := 0) dX4_init_14 (by decide) ?_
  refine x_puti dX4_init_15 F_Land_17 T_4_1 hl2 rfl rfl rfl ?_
  refine x_return dX4_init_18 rfl ?_
  exact ⟨rfl, rfl⟩
