/-! the class: a clause put into a land -/
set_option maxHeartbeats 4000000 in
set_option maxRecDepth 100000 in
theorem m_Land_add {g : xG} {nx : Nat} {sh : Nat → Nat × Nat} {P : Nat → Nat → Option Nat} {I : Nat → Nat → Int32} {la ar cl n : Nat} (hla : (sh la).1 = 4) (har : sh ar = (14, 10)) (hP : P la 0 = some ar) (hn : I la 1 = nI n) (hn10 : n < 10) (hcl : (sh cl).1 = 2) : xMet g Y_Land_add 0 0 0 [.ref la, .ref cl] (nx, sh, P, I) (fun r σ => r = none ∧ σ = (nx, sh, xrp P ar n (some cl), xup I la 1 (nI (n + 1)))) := by
  refine xMet.of [some (.ref la), some (.ref cl)] (by decide +kernel) (Nat.le_of_ble_eq_true rfl) rfl ?_
  refine x_aload_n dX4_add_0 rfl ?_
  refine x_ifnull dX4_add_1 ?_
  refine x_aload_n dX4_add_4 rfl ?_
  refine y_geti dX4_add_5 F_Land_17 hla rfl hn ?_
  refine x_if_lt (tgt := 43) dX4_add_8 rfl (fun c8 => ?_) (fun c8 => ?_)
  · exact absurd c8 (nI_pos (by omega))
  · refine x_aload_n dX4_add_11 rfl ?_
    refine y_geti dX4_add_12 F_Land_17 hla rfl hn ?_
    refine x_aload_n dX4_add_15 rfl ?_
    refine y_getr dX4_add_16 F_Land_11 hla rfl hP ?_
    refine y_alen dX4_add_19 har (by decide) ?_
    refine x_icmp_ge (tgt := 43) dX4_add_20 rfl (fun c20 => ?_) (fun c20 => ?_)
    · exact absurd ((nI_leI (b := n) (a := 10) (by decide) (by omega)).mp c20) (by omega)
    · refine x_aload_n dX4_add_23 rfl ?_
      refine y_getr dX4_add_24 F_Land_11 hla rfl hP ?_
      refine x_aload_n dX4_add_27 rfl ?_
      refine y_geti dX4_add_28 F_Land_17 hla rfl hn ?_
      refine x_aload_n dX4_add_31 rfl ?_
      refine x_aastore dX4_add_32 har hcl (vi (j := n) rfl hn10 (by decide)) ?_
      rw [nI_clamp (by omega)]
      refine x_aload_n dX4_add_33 rfl ?_
      refine x_dup dX4_add_34 rfl ?_
      refine y_geti dX4_add_35 F_Land_17 hla rfl hn ?_
      refine x_iconst (v := 1) dX4_add_38 (by decide) ?_
      refine x_iadd dX4_add_39 ?_
      rw [nI_1]
      refine x_puti dX4_add_40 F_Land_17 T_4_1 hla rfl rfl rfl ?_
      refine x_return dX4_add_43 rfl ?_
      exact ⟨rfl, rfl⟩
