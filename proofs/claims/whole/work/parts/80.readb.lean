/-! the class: the word of a clause, a sign put down -/
theorem nbv_0 {b : Bool} (h : bv (!b) = 0) : b = true := by cases b with | true => rfl | false => exact absurd h (by decide)
theorem nbv_1 {b : Bool} (h : ¬ bv (!b) = 0) : ¬ b = true := by cases b with | true => exact absurd rfl h | false => exact Bool.false_ne_true
/-- the word: which, or -1, and the spot behind it -/
def rwV (T : Nat → Int32) (en sp : Nat) : Int32 := if clW T en sp = 4 then -1 else if (spL T en (clW T en sp) sp false (xTl.getD (clW T en sp) 0)).2 = true then -1 else nI (clW T en sp)
def rwS (T : Nat → Int32) (en sp : Nat) : Nat := if clW T en sp = 4 then sp else (spL T en (clW T en sp) sp false (xTl.getD (clW T en sp) 0)).1
set_option maxHeartbeats 4000000 in
set_option maxRecDepth 100000 in
theorem m_Reader_readWord {g : xG} {nx : Nat} {sh : Nat → Nat × Nat} {P : Nat → Nat → Option Nat} {I : Nat → Nat → Int32} (hx : xFx sh P) {T : Nat → Int32} {en sp : Nat} (hr : xRr I T en sp) : xMet g Y_Reader_readWord 5 0 0 [.ref 97] (nx, sh, P, I) (fun r σ => ∃ I1 : Nat → Nat → Int32, r = some (.int (rwV T en sp)) ∧ σ = (nx, sh, P, I1) ∧ xR3 I I1 ∧ xRr I1 T en (rwS T en sp)) := by
  refine xMet.of [some (.ref 97)] (by decide +kernel) (Nat.le_of_ble_eq_true rfl) rfl ?_
  obtain ⟨h2, h3, hen, hse, hT⟩ := id hr
  refine x_aload_n dX6_readWord_0 rfl ?_
  refine x_callV (k2 := 0) (n2 := 0) dX6_readWord_1 LV_Reader_95 (m_Reader_next hx hr) rfl rfl (fxo_97 hx) rfl (Nat.le_of_ble_eq_true rfl) (Nat.le_of_ble_eq_true rfl) (Nat.le_of_ble_eq_true rfl) (Nat.le_of_ble_eq_true rfl) ?_
  rintro _ _ ⟨rfl, rfl⟩
  obtain ⟨c, hc⟩ : ∃ c, hrT T en sp = c := ⟨_, rfl⟩
  rw [hc]
  rcases (show c = 116 ∨ c = 99 ∨ c = 100 ∨ c = 109 ∨ (¬ c = 116 ∧ ¬ c = 99 ∧ ¬ c = 100 ∧ ¬ c = 109) by grind) with rfl | rfl | rfl | rfl | ⟨n1, n2, n3, n4⟩
  · have hk : clW T en sp = 0 := by unfold clW; rw [hc]; rfl
    refine x_lookup (off := 44) (tgt := 48) dX6_readWord_4 (by decide) (by decide) rfl ?_
    refine x_aload_n dX6_readWord_48 rfl ?_
    refine x_ldcS (a := 8 + 0) dX6_readWord_49 xl_Reader_98 ?_
    refine x_callV (k2 := 0) (n2 := 0) dX6_readWord_51 LV_Reader_100 (m_Reader_takeAll (i := 0) hx hr (by decide)) rfl rfl (fxo_97 hx) rfl (Nat.le_of_ble_eq_true rfl) (Nat.le_of_ble_eq_true rfl) (Nat.le_of_ble_eq_true rfl) (Nat.le_of_ble_eq_true rfl) ?_
    rintro _ _ ⟨I1, rfl, rfl, hF1, hr1⟩
    refine x_if_eq (tgt := 61) dX6_readWord_54 rfl (fun c54 => ?_) (fun c54 => ?_)
    · have hm := nbv_0 c54
      refine x_iconst (v := (-1)) dX6_readWord_61 (by decide) ?_
      refine x_ireturn dX6_readWord_62 rfl nb_int ?_
      have hS : rwS T en sp = (spL T en 0 sp false (xTl.getD 0 0)).1 := by unfold rwS; rw [hk]; rfl
      first
      | exact ⟨I1, by unfold rwV; rw [hk, if_neg (by decide), if_pos hm], rfl, hF1, by rw [hS]; exact hr1⟩
      | exact ⟨I1, by unfold rwV; rw [hk, if_neg (by decide), if_neg hm]; rfl, rfl, hF1, by rw [hS]; exact hr1⟩
    · have hm := nbv_1 c54
      refine x_iconst (v := 0) dX6_readWord_57 (by decide) ?_
      refine x_goto (tgt := 62) dX6_readWord_58 rfl ?_
      refine x_ireturn dX6_readWord_62 rfl nb_int ?_
      have hS : rwS T en sp = (spL T en 0 sp false (xTl.getD 0 0)).1 := by unfold rwS; rw [hk]; rfl
      first
      | exact ⟨I1, by unfold rwV; rw [hk, if_neg (by decide), if_pos hm], rfl, hF1, by rw [hS]; exact hr1⟩
      | exact ⟨I1, by unfold rwV; rw [hk, if_neg (by decide), if_neg hm]; rfl, rfl, hF1, by rw [hS]; exact hr1⟩
  · have hk : clW T en sp = 1 := by unfold clW; rw [hc]; rfl
    refine x_lookup (off := 59) (tgt := 63) dX6_readWord_4 (by decide) (by decide) rfl ?_
    refine x_aload_n dX6_readWord_63 rfl ?_
    refine x_ldcS (a := 8 + 1) dX6_readWord_64 xl_Reader_104 ?_
    refine x_callV (k2 := 0) (n2 := 0) dX6_readWord_66 LV_Reader_100 (m_Reader_takeAll (i := 1) hx hr (by decide)) rfl rfl (fxo_97 hx) rfl (Nat.le_of_ble_eq_true rfl) (Nat.le_of_ble_eq_true rfl) (Nat.le_of_ble_eq_true rfl) (Nat.le_of_ble_eq_true rfl) ?_
    rintro _ _ ⟨I1, rfl, rfl, hF1, hr1⟩
    refine x_if_eq (tgt := 76) dX6_readWord_69 rfl (fun c69 => ?_) (fun c69 => ?_)
    · have hm := nbv_0 c69
      refine x_iconst (v := (-1)) dX6_readWord_76 (by decide) ?_
      refine x_ireturn dX6_readWord_77 rfl nb_int ?_
      have hS : rwS T en sp = (spL T en 1 sp false (xTl.getD 1 0)).1 := by unfold rwS; rw [hk]; rfl
      first
      | exact ⟨I1, by unfold rwV; rw [hk, if_neg (by decide), if_pos hm], rfl, hF1, by rw [hS]; exact hr1⟩
      | exact ⟨I1, by unfold rwV; rw [hk, if_neg (by decide), if_neg hm]; rfl, rfl, hF1, by rw [hS]; exact hr1⟩
    · have hm := nbv_1 c69
      refine x_iconst (v := 1) dX6_readWord_72 (by decide) ?_
      refine x_goto (tgt := 77) dX6_readWord_73 rfl ?_
      refine x_ireturn dX6_readWord_77 rfl nb_int ?_
      have hS : rwS T en sp = (spL T en 1 sp false (xTl.getD 1 0)).1 := by unfold rwS; rw [hk]; rfl
      first
      | exact ⟨I1, by unfold rwV; rw [hk, if_neg (by decide), if_pos hm], rfl, hF1, by rw [hS]; exact hr1⟩
      | exact ⟨I1, by unfold rwV; rw [hk, if_neg (by decide), if_neg hm]; rfl, rfl, hF1, by rw [hS]; exact hr1⟩
  · have hk : clW T en sp = 2 := by unfold clW; rw [hc]; rfl
    refine x_lookup (off := 74) (tgt := 78) dX6_readWord_4 (by decide) (by decide) rfl ?_
    refine x_aload_n dX6_readWord_78 rfl ?_
    refine x_ldcS (a := 8 + 2) dX6_readWord_79 xl_Reader_106 ?_
    refine x_callV (k2 := 0) (n2 := 0) dX6_readWord_81 LV_Reader_100 (m_Reader_takeAll (i := 2) hx hr (by decide)) rfl rfl (fxo_97 hx) rfl (Nat.le_of_ble_eq_true rfl) (Nat.le_of_ble_eq_true rfl) (Nat.le_of_ble_eq_true rfl) (Nat.le_of_ble_eq_true rfl) ?_
    rintro _ _ ⟨I1, rfl, rfl, hF1, hr1⟩
    refine x_if_eq (tgt := 91) dX6_readWord_84 rfl (fun c84 => ?_) (fun c84 => ?_)
    · have hm := nbv_0 c84
      refine x_iconst (v := (-1)) dX6_readWord_91 (by decide) ?_
      refine x_ireturn dX6_readWord_92 rfl nb_int ?_
      have hS : rwS T en sp = (spL T en 2 sp false (xTl.getD 2 0)).1 := by unfold rwS; rw [hk]; rfl
      first
      | exact ⟨I1, by unfold rwV; rw [hk, if_neg (by decide), if_pos hm], rfl, hF1, by rw [hS]; exact hr1⟩
      | exact ⟨I1, by unfold rwV; rw [hk, if_neg (by decide), if_neg hm]; rfl, rfl, hF1, by rw [hS]; exact hr1⟩
    · have hm := nbv_1 c84
      refine x_iconst (v := 2) dX6_readWord_87 (by decide) ?_
      refine x_goto (tgt := 92) dX6_readWord_88 rfl ?_
      refine x_ireturn dX6_readWord_92 rfl nb_int ?_
      have hS : rwS T en sp = (spL T en 2 sp false (xTl.getD 2 0)).1 := by unfold rwS; rw [hk]; rfl
      first
      | exact ⟨I1, by unfold rwV; rw [hk, if_neg (by decide), if_pos hm], rfl, hF1, by rw [hS]; exact hr1⟩
      | exact ⟨I1, by unfold rwV; rw [hk, if_neg (by decide), if_neg hm]; rfl, rfl, hF1, by rw [hS]; exact hr1⟩
  · have hk : clW T en sp = 3 := by unfold clW; rw [hc]; rfl
    refine x_lookup (off := 89) (tgt := 93) dX6_readWord_4 (by decide) (by decide) rfl ?_
    refine x_aload_n dX6_readWord_93 rfl ?_
    refine x_ldcS (a := 8 + 3) dX6_readWord_94 xl_Reader_108 ?_
    refine x_callV (k2 := 0) (n2 := 0) dX6_readWord_96 LV_Reader_100 (m_Reader_takeAll (i := 3) hx hr (by decide)) rfl rfl (fxo_97 hx) rfl (Nat.le_of_ble_eq_true rfl) (Nat.le_of_ble_eq_true rfl) (Nat.le_of_ble_eq_true rfl) (Nat.le_of_ble_eq_true rfl) ?_
    rintro _ _ ⟨I1, rfl, rfl, hF1, hr1⟩
    refine x_if_eq (tgt := 106) dX6_readWord_99 rfl (fun c99 => ?_) (fun c99 => ?_)
    · have hm := nbv_0 c99
      refine x_iconst (v := (-1)) dX6_readWord_106 (by decide) ?_
      refine x_ireturn dX6_readWord_107 rfl nb_int ?_
      have hS : rwS T en sp = (spL T en 3 sp false (xTl.getD 3 0)).1 := by unfold rwS; rw [hk]; rfl
      first
      | exact ⟨I1, by unfold rwV; rw [hk, if_neg (by decide), if_pos hm], rfl, hF1, by rw [hS]; exact hr1⟩
      | exact ⟨I1, by unfold rwV; rw [hk, if_neg (by decide), if_neg hm]; rfl, rfl, hF1, by rw [hS]; exact hr1⟩
    · have hm := nbv_1 c99
      refine x_iconst (v := 3) dX6_readWord_102 (by decide) ?_
      refine x_goto (tgt := 107) dX6_readWord_103 rfl ?_
      refine x_ireturn dX6_readWord_107 rfl nb_int ?_
      have hS : rwS T en sp = (spL T en 3 sp false (xTl.getD 3 0)).1 := by unfold rwS; rw [hk]; rfl
      first
      | exact ⟨I1, by unfold rwV; rw [hk, if_neg (by decide), if_pos hm], rfl, hF1, by rw [hS]; exact hr1⟩
      | exact ⟨I1, by unfold rwV; rw [hk, if_neg (by decide), if_neg hm]; rfl, rfl, hF1, by rw [hS]; exact hr1⟩
  · have hk : clW T en sp = 4 := by unfold clW; rw [hc, if_neg n1, if_neg n2, if_neg n3, if_neg n4]
    refine x_lookup (off := 104) (tgt := 108) dX6_readWord_4 (by decide) (lk_out (fun z => n2 (Int32.toInt_inj.mp z.symm)) (fun z => n3 (Int32.toInt_inj.mp z.symm)) (fun z => n4 (Int32.toInt_inj.mp z.symm)) (fun z => n1 (Int32.toInt_inj.mp z.symm))) rfl ?_
    refine x_iconst (v := (-1)) dX6_readWord_108 (by decide) ?_
    refine x_ireturn dX6_readWord_109 rfl nb_int ?_
    exact ⟨I, by unfold rwV; rw [if_pos hk], rfl, xR3.rf, by unfold rwS; rw [if_pos hk]; exact hr⟩

set_option maxHeartbeats 4000000 in
set_option maxRecDepth 100000 in
theorem m_Reader_emit {g : xG} {nx : Nat} {sh : Nat → Nat × Nat} {P : Nat → Nat → Option Nat} {I : Nat → Nat → Int32} (hx : xFx sh P) {n : Nat} {x : Int32} (hcd : I 97 5 = nI n) (hn : n < 100) : xMet g Y_Reader_emit 0 0 0 [.ref 97, .int x] (nx, sh, P, I) (fun r σ => r = none ∧ σ = (nx, sh, P, xup (xup I 99 n x) 97 5 (nI (n + 1)))) := by
  refine xMet.of [some (.ref 97), some (.int x)] (by decide +kernel) (Nat.le_of_ble_eq_true rfl) rfl ?_
  refine x_aload_n dX6_emit_0 rfl ?_
  refine y_geti dX6_emit_1 F_Reader_25 (fxo_97 hx) rfl hcd ?_
  refine x_if_lt (tgt := 39) dX6_emit_4 rfl (fun c4 => ?_) (fun c4 => ?_)
  · exact absurd c4 (nI_pos (by omega))
  · refine x_aload_n dX6_emit_7 rfl ?_
    refine y_geti dX6_emit_8 F_Reader_25 (fxo_97 hx) rfl hcd ?_
    refine x_aload_n dX6_emit_11 rfl ?_
    refine y_getr dX6_emit_12 F_Reader_22 (fxo_97 hx) rfl (fxp_97_4 hx) ?_
    refine y_alen dX6_emit_15 (fxk_99 hx) (by decide) ?_
    refine x_icmp_ge (tgt := 39) dX6_emit_16 rfl (fun c16 => ?_) (fun c16 => ?_)
    · exact absurd ((nI_leI (b := n) (a := 100) (by decide) (by omega)).mp c16) (by omega)
    · refine x_aload_n dX6_emit_19 rfl ?_
      refine y_getr dX6_emit_20 F_Reader_22 (fxo_97 hx) rfl (fxp_97_4 hx) ?_
      refine x_aload_n dX6_emit_23 rfl ?_
      refine y_geti dX6_emit_24 F_Reader_25 (fxo_97 hx) rfl hcd ?_
      refine x_iload_n dX6_emit_27 rfl ?_
      refine y_iastore dX6_emit_28 (fxk_99 hx) (vi rfl hn (by decide)) (ci rfl (by omega)) ?_
      refine x_aload_n dX6_emit_29 rfl ?_
      refine x_dup dX6_emit_30 rfl ?_
      refine y_geti dX6_emit_31 F_Reader_25 (fxo_97 hx) rfl ((xo (by decide)).trans hcd) ?_
      refine x_iconst (v := 1) dX6_emit_34 (by decide) ?_
      refine x_iadd dX6_emit_35 ?_
      rw [nI_1]
      refine x_puti dX6_emit_36 F_Reader_25 T_6_5 (fxo_97 hx) rfl rfl rfl ?_
      refine x_return dX6_emit_39 rfl ?_
      exact ⟨rfl, rfl⟩
