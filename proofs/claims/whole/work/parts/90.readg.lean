/-! the class: a condition read -/
theorem xRc.op {I : Nat → Nat → Int32} {T : Nat → Int32} {en sp : Nat} {tu : List Bool} {cd : List Int32} {x : Int32} {b : Bool} (h : xRc I T en sp tu cd) (hx : x = bv b) (hl : tu.length < 5) : xRc (xup (xup I 97 7 (I 97 7 <<< (1 &&& 31) ||| x)) 97 6 (nI (tu.length + 1))) T en sp (b :: tu) cd := by
  obtain ⟨g1, g2, g3, g4, g5, g6, g7⟩ := h
  refine ⟨g1.fr ?_ ?_ ?_, ?_, by rw [List.length_cons]; omega, ?_, ?_, g6, ?_⟩
  · rw [xf (by decide), xf (by decide)]
  · rw [xf (by decide), xf (by decide)]
  · rw [xup_n (by decide), xup_n (by decide)]
  · rw [List.length_cons]; exact xs
  · rw [xf (by decide), xs]; exact g4.op hx g3
  · rw [xf (by decide), xf (by decide)]; exact g5
  · intro j hj; rw [xo (by decide), xo (by decide)]; exact g7 j hj
theorem xFrm.ts {l : List Nat} {I I1 I2 : Nat → Nat → Int32} (h1 : xFrm l I I1) (h2 : xFrm l I1 I2) : xFrm l I I2 := fun b hb => (h2 b hb).trans (h1 b hb)
theorem xFrm.c9 {I I1 : Nat → Nat → Int32} (h : xFrm [97] I I1) : xFrm [97, 99] I I1 := h.mono
set_option maxHeartbeats 4000000 in
set_option maxRecDepth 100000 in
theorem m_Reader_takeClosing {g : xG} {nx : Nat} {sh : Nat → Nat × Nat} {P : Nat → Nat → Option Nat} {I : Nat → Nat → Int32} (hx : xFx sh P) {T : Nat → Int32} {en sp : Nat} {tu : List Bool} {cd : List Int32} (hc : xRc I T en sp tu cd) (ho : tuO tu) : xMet g Y_Reader_takeClosing 2 0 0 [.ref 97] (nx, sh, P, I) (fun r σ => ∃ (I1 : Nat → Nat → Int32) (sp1 : Nat) (tu1 : List Bool) (cd1 : List Int32), r = none ∧ σ = (nx, sh, P, I1) ∧ xFrm [97, 99] I I1 ∧ pR T en (1, sp, tu, cd) (1, sp1, tu1, cd1) ∧ xRc I1 T en sp1 tu1 cd1 ∧ tuO tu1 ∧ (tu1 = [] ∨ ¬ hrT T en sp1 = 41) ∧ sp ≤ sp1) := by
  refine xMet.of [some (.ref 97), none] (by decide +kernel) (Nat.le_of_ble_eq_true rfl) rfl ?_
  have hen := hc.1.2.2.1
  refine x_iconst (v := 0) dX6_takeClosing_0 (by decide) ?_
  refine x_istore_n dX6_takeClosing_1 (Nat.le_of_ble_eq_true rfl) ?_
  try simp only [xst, xst2, xclr, xset, xwide]
  have K2 : ∀ (fuel : Nat) (i sp2 : Nat) (tu2 : List Bool) (cd2 : List Int32) (I2 : Nat → Nat → Int32) (hi : i + tu2.length ≤ 5) (hs : sp ≤ sp2) (hF : xFrm [97, 99] I I2) (hc2 : xRc I2 T en sp2 tu2 cd2) (hp : pR T en (1, sp, tu, cd) (1, sp2, tu2, cd2)) (ho2 : tuO tu2), 5 - i < fuel → xX g Y_Reader_takeClosing 2 0 0 (fun r σ => ∃ (I1 : Nat → Nat → Int32) (sp1 : Nat) (tu1 : List Bool) (cd1 : List Int32), r = none ∧ σ = (nx, sh, P, I1) ∧ xFrm [97, 99] I I1 ∧ pR T en (1, sp, tu, cd) (1, sp1, tu1, cd1) ∧ xRc I1 T en sp1 tu1 cd1 ∧ tuO tu1 ∧ (tu1 = [] ∨ ¬ hrT T en sp1 = 41) ∧ sp ≤ sp1) 2 [some (.ref 97), some (.int (nI i))] [] (nx, sh, P, I2) := by
    intro fuel
    induction fuel with
    | zero => intro i sp2 tu2 cd2 I2 hi hs hF hc2 hp ho2 hm; exact absurd hm (Nat.not_lt_zero _)
    | succ fuel ih2 =>
      intro i sp2 tu2 cd2 I2 hi hs hF hc2 hp ho2 hm
      refine x_iload_n dX6_takeClosing_2 rfl ?_
      refine x_iconst (v := 5) dX6_takeClosing_3 (by decide) ?_
      refine x_icmp_ge (tgt := 44) dX6_takeClosing_4 rfl (fun c4 => ?_) (fun c4 => ?_)
      · have h5 : 5 ≤ i := (nI_leI (a := 5) (by decide) (by omega)).mp c4
        have hO : tu2 = [] := tuO_l (by omega)
        refine x_return dX6_takeClosing_44 rfl ?_
        exact ⟨I2, sp2, tu2, cd2, rfl, rfl, hF, hp, hc2, ho2, Or.inl hO, hs⟩
      · refine x_aload_n dX6_takeClosing_7 rfl ?_
        refine y_geti dX6_takeClosing_8 F_Reader_28 (fxo_97 hx) rfl hc2.2.1 ?_
        refine x_if_eq (tgt := 23) dX6_takeClosing_11 rfl (fun c11 => ?_) (fun c11 => ?_)
        · have hO : tu2 = [] := tuO_l (by have h9 := (nI_eqI (a := tu2.length) (b := 0) (by omega) (by decide)).mp c11; omega)
          refine x_return dX6_takeClosing_23 rfl ?_
          exact ⟨I2, sp2, tu2, cd2, rfl, rfl, hF, hp, hc2, ho2, Or.inl hO, hs⟩
        · obtain ⟨t, rfl⟩ : ∃ t, tu2 = false :: t := by
            rcases ho2 with rfl | h
            · exact absurd rfl c11
            · exact h
          rw [List.length_cons] at hi
          refine x_aload_n dX6_takeClosing_14 rfl ?_
          refine x_bipush (v := 41) dX6_takeClosing_15 (by decide) ?_
          refine x_callV (k2 := 0) (n2 := 0) dX6_takeClosing_17 LV_Reader_52 (c_take (I := I2) (c := 41) hx hc2 (by decide)) rfl rfl (fxo_97 hx) rfl (Nat.le_of_ble_eq_true rfl) (Nat.le_of_ble_eq_true rfl) (Nat.le_of_ble_eq_true rfl) (Nat.le_of_ble_eq_true rfl) ?_
          rintro _ _ ⟨I3, rfl, rfl, hF3, hc3⟩
          refine x_if_ne (tgt := 24) dX6_takeClosing_20 rfl (fun c20 => ?_) (fun c20 => ?_)
          · have hm := nbv_1 c20
            obtain ⟨h41, hms⟩ := mu_n hm
            rw [hms] at hc3
            have hlt : sp2 < en := hrT_lt (T := T) (by rw [h41]; decide)
            have hcl := hc2.2.2.2.2.2.1
            refine x_aload_n dX6_takeClosing_24 rfl ?_
            refine x_bipush (v := 41) dX6_takeClosing_25 (by decide) ?_
            refine x_callV (k2 := 0) (n2 := 0) dX6_takeClosing_27 LV_Reader_125 (c_emit (I := I3) (x := 41) hx hc3 (by omega)) rfl rfl (fxo_97 hx) rfl (Nat.le_of_ble_eq_true rfl) (Nat.le_of_ble_eq_true rfl) (Nat.le_of_ble_eq_true rfl) (Nat.le_of_ble_eq_true rfl) ?_
            rintro _ _ ⟨I4, rfl, rfl, hF4, hc4⟩
            refine x_aload_n dX6_takeClosing_30 rfl ?_
            refine x_callV (k2 := 0) (n2 := 0) dX6_takeClosing_31 LV_Reader_129 (c_close (I := I4) hx hc4) rfl rfl (fxo_97 hx) rfl (Nat.le_of_ble_eq_true rfl) (Nat.le_of_ble_eq_true rfl) (Nat.le_of_ble_eq_true rfl) (Nat.le_of_ble_eq_true rfl) ?_
            rintro _ _ ⟨I5, rfl, rfl, hF5, hc5⟩
            refine x_aload_n dX6_takeClosing_34 rfl ?_
            refine x_callV (k2 := 0) (n2 := 0) dX6_takeClosing_35 LV_Reader_119 (m_Reader_closeTurns (I := I5) hx hc5) rfl rfl (fxo_97 hx) rfl (Nat.le_of_ble_eq_true rfl) (Nat.le_of_ble_eq_true rfl) (Nat.le_of_ble_eq_true rfl) (Nat.le_of_ble_eq_true rfl) ?_
            rintro _ _ ⟨I6, t1, rfl, rfl, hF6, hp6, hc6, ho6, hl6⟩
            refine x_iinc (v := (nI (i + 1))) dX6_takeClosing_38 rfl (nI_1 _) (Nat.le_of_ble_eq_true rfl) ?_
            try simp only [xst, xst2, xclr, xset, xwide]
            refine x_goto (tgt := 2) dX6_takeClosing_41 rfl ?_
            exact ih2 (i + 1) (sp2 + 1) t1 (cd2 ++ [41]) I6 (by omega) (by omega) (((hF.ts hF3.c9).ts hF4).ts (hF5.ts hF6).c9) hc6 ((hp.tr (pR.st (by rw [pS_f, if_pos h41]))).tr hp6) ho6 (by omega)
          · have hm := nbv_0 c20
            obtain ⟨h41, hms⟩ := mu_y hm
            rw [hms] at hc3
            refine x_return dX6_takeClosing_23 rfl ?_
            exact ⟨I3, sp2, _, cd2, rfl, rfl, hF.ts hF3.c9, hp, hc3, ho2, Or.inr h41, hs⟩
  exact K2 _ 0 sp tu cd I (by have := hc.2.2.1; omega) (Nat.le_refl _) xFrm.rf hc pR.rf ho (Nat.lt_succ_self _)

set_option maxHeartbeats 4000000 in
set_option maxRecDepth 100000 in
theorem m_Reader_takeOpening {g : xG} {nx : Nat} {sh : Nat → Nat × Nat} {P : Nat → Nat → Option Nat} {I : Nat → Nat → Int32} (hx : xFx sh P) {T : Nat → Int32} {en sp : Nat} {tu : List Bool} {cd : List Int32} (hc : xRc I T en sp tu cd) : xMet g Y_Reader_takeOpening 2 0 0 [.ref 97] (nx, sh, P, I) (fun r σ => ∃ (I1 : Nat → Nat → Int32) (sp1 : Nat) (b : Bool), r = some (.int (bv b)) ∧ σ = (nx, sh, P, I1) ∧ xFrm [97, 99] I I1 ∧ sp ≤ sp1 ∧ (b = true → ∃ (tu1 : List Bool) (cd1 : List Int32), pR T en (0, sp, tu, cd) (0, sp1, tu1, cd1) ∧ xRc I1 T en sp1 tu1 cd1 ∧ ¬ (hrT T en sp1 = 33 ∨ hrT T en sp1 = 40)) ∧ (b = false → pR T en (0, sp, tu, cd) (2, sp1, [], []) ∧ xRr I1 T en sp1)) := by
  refine xMet.of [some (.ref 97), none, none] (by decide +kernel) (Nat.le_of_ble_eq_true rfl) rfl ?_
  have hen := hc.1.2.2.1
  refine x_iconst (v := 0) dX6_takeOpening_0 (by decide) ?_
  refine x_istore_n dX6_takeOpening_1 (Nat.le_of_ble_eq_true rfl) ?_
  try simp only [xst, xst2, xclr, xset, xwide]
  have K2 : ∀ (fuel : Nat) (i sp2 : Nat) (tu2 : List Bool) (cd2 : List Int32) (I2 : Nat → Nat → Int32) (v2 : Option Value) (hi : i ≤ tu2.length) (hs : sp ≤ sp2) (hF : xFrm [97, 99] I I2) (hc2 : xRc I2 T en sp2 tu2 cd2) (hp : pR T en (0, sp, tu, cd) (0, sp2, tu2, cd2)), 6 - i < fuel → xX g Y_Reader_takeOpening 2 0 0 (fun r σ => ∃ (I1 : Nat → Nat → Int32) (sp1 : Nat) (b : Bool), r = some (.int (bv b)) ∧ σ = (nx, sh, P, I1) ∧ xFrm [97, 99] I I1 ∧ sp ≤ sp1 ∧ (b = true → ∃ (tu1 : List Bool) (cd1 : List Int32), pR T en (0, sp, tu, cd) (0, sp1, tu1, cd1) ∧ xRc I1 T en sp1 tu1 cd1 ∧ ¬ (hrT T en sp1 = 33 ∨ hrT T en sp1 = 40)) ∧ (b = false → pR T en (0, sp, tu, cd) (2, sp1, [], []) ∧ xRr I1 T en sp1)) 2 [some (.ref 97), some (.int (nI i)), v2] [] (nx, sh, P, I2) := by
    intro fuel
    induction fuel with
    | zero => intro i sp2 tu2 cd2 I2 v2 hi hs hF hc2 hp hm; exact absurd hm (Nat.not_lt_zero _)
    | succ fuel ih2 =>
      intro i sp2 tu2 cd2 I2 v2 hi hs hF hc2 hp hm
      have h25 := hc2.2.2.1
      refine x_iload_n dX6_takeOpening_2 rfl ?_
      refine x_iconst (v := 5) dX6_takeOpening_3 (by decide) ?_
      refine x_icmp_gt (tgt := 85) dX6_takeOpening_4 rfl (fun c4 => ?_) (fun c4 => ?_)
      · exact absurd ((nI_ltI (a := 5) (by decide) (by omega)).mp c4) (by omega)
      · refine x_aload_n dX6_takeOpening_7 rfl ?_
        refine x_callV (k2 := 0) (n2 := 0) dX6_takeOpening_8 LV_Reader_95 (m_Reader_next (I := I2) hx hc2.1) rfl rfl (fxo_97 hx) rfl (Nat.le_of_ble_eq_true rfl) (Nat.le_of_ble_eq_true rfl) (Nat.le_of_ble_eq_true rfl) (Nat.le_of_ble_eq_true rfl) ?_
        rintro _ _ ⟨rfl, rfl⟩
        refine x_istore_n dX6_takeOpening_11 (Nat.le_of_ble_eq_true rfl) ?_
        try simp only [xst, xst2, xclr, xset, xwide]
        have J26 : ∀ (hop : hrT T en sp2 = 33 ∨ hrT T en sp2 = 40), xX g Y_Reader_takeOpening 2 0 0 (fun r σ => ∃ (I1 : Nat → Nat → Int32) (sp1 : Nat) (b : Bool), r = some (.int (bv b)) ∧ σ = (nx, sh, P, I1) ∧ xFrm [97, 99] I I1 ∧ sp ≤ sp1 ∧ (b = true → ∃ (tu1 : List Bool) (cd1 : List Int32), pR T en (0, sp, tu, cd) (0, sp1, tu1, cd1) ∧ xRc I1 T en sp1 tu1 cd1 ∧ ¬ (hrT T en sp1 = 33 ∨ hrT T en sp1 = 40)) ∧ (b = false → pR T en (0, sp, tu, cd) (2, sp1, [], []) ∧ xRr I1 T en sp1)) 26 [some (.ref 97), some (.int (nI i)), some (.int (hrT T en sp2))] [] (nx, sh, P, I2) := by
          intro hop
          have hlt : sp2 < en := hrT_lt (T := T) (by rcases hop with h | h <;> rw [h] <;> decide)
          have hcl := hc2.2.2.2.2.2.1
          refine x_aload_n dX6_takeOpening_26 rfl ?_
          refine y_geti dX6_takeOpening_27 F_Reader_28 (fxo_97 hx) rfl hc2.2.1 ?_
          refine x_iconst (v := 5) dX6_takeOpening_30 (by decide) ?_
          refine x_icmp_lt (tgt := 36) dX6_takeOpening_31 rfl (fun c31 => ?_) (fun c31 => ?_)
          · have h5 : tu2.length < 5 := (nI_ltI (b := 5) (by omega) (by decide)).mp c31
            refine x_aload_n dX6_takeOpening_36 rfl ?_
            refine x_iload_n dX6_takeOpening_37 rfl ?_
            refine x_callV (k2 := 0) (n2 := 0) dX6_takeOpening_38 LV_Reader_52 (c_take (I := I2) (c := hrT T en sp2) hx hc2 (by rcases hop with h | h <;> rw [h] <;> decide)) rfl rfl (fxo_97 hx) rfl (Nat.le_of_ble_eq_true rfl) (Nat.le_of_ble_eq_true rfl) (Nat.le_of_ble_eq_true rfl) (Nat.le_of_ble_eq_true rfl) ?_
            rintro _ _ ⟨I3, rfl, rfl, hF3, hc3⟩
            have hms : muS T en sp2 false (hrT T en sp2) = sp2 + 1 := (mu_n (fun z => (mu_y z).1 rfl)).2
            rw [hms] at hc3
            refine x_pop dX6_takeOpening_41 rfl ?_
            refine x_aload_n dX6_takeOpening_42 rfl ?_
            refine x_iload_n dX6_takeOpening_43 rfl ?_
            refine x_callV (k2 := 0) (n2 := 0) dX6_takeOpening_44 LV_Reader_125 (c_emit (I := I3) (x := hrT T en sp2) hx hc3 (by omega)) rfl rfl (fxo_97 hx) rfl (Nat.le_of_ble_eq_true rfl) (Nat.le_of_ble_eq_true rfl) (Nat.le_of_ble_eq_true rfl) (Nat.le_of_ble_eq_true rfl) ?_
            rintro _ _ ⟨I4, rfl, rfl, hF4, hc4⟩
            refine x_aload_n dX6_takeOpening_47 rfl ?_
            refine x_aload_n dX6_takeOpening_48 rfl ?_
            refine y_geti dX6_takeOpening_49 F_Reader_31 (fxo_97 hx) rfl rfl ?_
            refine x_iconst (v := 1) dX6_takeOpening_52 (by decide) ?_
            refine x_ishl dX6_takeOpening_53 ?_
            have J65 : ∀ (v : Int32) (hv : v = bv (decide (hrT T en sp2 = 33))), xX g Y_Reader_takeOpening 2 0 0 (fun r σ => ∃ (I1 : Nat → Nat → Int32) (sp1 : Nat) (b : Bool), r = some (.int (bv b)) ∧ σ = (nx, sh, P, I1) ∧ xFrm [97, 99] I I1 ∧ sp ≤ sp1 ∧ (b = true → ∃ (tu1 : List Bool) (cd1 : List Int32), pR T en (0, sp, tu, cd) (0, sp1, tu1, cd1) ∧ xRc I1 T en sp1 tu1 cd1 ∧ ¬ (hrT T en sp1 = 33 ∨ hrT T en sp1 = 40)) ∧ (b = false → pR T en (0, sp, tu, cd) (2, sp1, [], []) ∧ xRr I1 T en sp1)) 65 [some (.ref 97), some (.int (nI i)), some (.int (hrT T en sp2))] [.int v, .int (I4 97 7 <<< (1 &&& 31)), .ref 97] (nx, sh, P, I4) := by
              intro v hv
              subst hv
              refine x_ior dX6_takeOpening_65 ?_
              refine x_puti dX6_takeOpening_66 F_Reader_31 T_6_7 (fxo_97 hx) rfl rfl rfl ?_
              refine x_aload_n dX6_takeOpening_69 rfl ?_
              refine x_dup dX6_takeOpening_70 rfl ?_
              refine y_geti dX6_takeOpening_71 F_Reader_28 (fxo_97 hx) rfl ((xf (by decide)).trans hc4.2.1) ?_
              refine x_iconst (v := 1) dX6_takeOpening_74 (by decide) ?_
              refine x_iadd dX6_takeOpening_75 ?_
              rw [nI_1]
              refine x_puti dX6_takeOpening_76 F_Reader_28 T_6_6 (fxo_97 hx) rfl rfl rfl ?_
              refine x_iinc (v := (nI (i + 1))) dX6_takeOpening_79 rfl (nI_1 _) (Nat.le_of_ble_eq_true rfl) ?_
              try simp only [xst, xst2, xclr, xset, xwide]
              refine x_goto (tgt := 2) dX6_takeOpening_82 rfl ?_
              exact ih2 (i + 1) (sp2 + 1) (decide (hrT T en sp2 = 33) :: tu2) (cd2 ++ [hrT T en sp2]) _ _ (by rw [List.length_cons]; omega) (by omega) (xFrs (xFrs ((hF.ts hF3.c9).ts hF4))) (hc4.op rfl h5) (hp.tr (pR.st (by rw [pS_0, if_pos hop, if_neg (by omega)]))) (by omega)
            refine x_iload_n dX6_takeOpening_54 rfl ?_
            refine x_bipush (v := 33) dX6_takeOpening_55 (by decide) ?_
            refine x_icmp_ne (tgt := 64) dX6_takeOpening_57 rfl (fun c57 => ?_) (fun c57 => ?_)
            · refine x_iconst (v := 0) dX6_takeOpening_64 (by decide) ?_
              exact J65 _ (by first | (rw [decide_eq_true c57]; rfl) | (rw [decide_eq_false c57]; rfl))
            · refine x_iconst (v := 1) dX6_takeOpening_60 (by decide) ?_
              refine x_goto (tgt := 65) dX6_takeOpening_61 rfl ?_
              exact J65 _ (by first | (rw [decide_eq_true c57]; rfl) | (rw [decide_eq_false c57]; rfl))
          · have h5 : 5 ≤ tu2.length := Nat.not_lt.mp (fun y => c31 (nI_lt y (by decide)))
            refine x_iconst (v := 0) dX6_takeOpening_34 (by decide) ?_
            refine x_ireturn dX6_takeOpening_35 rfl rfl ?_
            exact ⟨I2, sp2, false, rfl, rfl, hF, hs, fun z => (by cases z), fun _ => ⟨hp.tr (pR.st (by rw [pS_0, if_pos hop, if_pos h5])), hc2.1⟩⟩
        refine x_iload_n dX6_takeOpening_12 rfl ?_
        refine x_bipush (v := 33) dX6_takeOpening_13 (by decide) ?_
        refine x_icmp_eq (tgt := 26) dX6_takeOpening_15 rfl (fun c15 => ?_) (fun c15 => ?_)
        · exact J26 (by first | exact Or.inl c15 | exact Or.inr c21)
        · refine x_iload_n dX6_takeOpening_18 rfl ?_
          refine x_bipush (v := 40) dX6_takeOpening_19 (by decide) ?_
          refine x_icmp_eq (tgt := 26) dX6_takeOpening_21 rfl (fun c21 => ?_) (fun c21 => ?_)
          · exact J26 (by first | exact Or.inl c15 | exact Or.inr c21)
          · refine x_iconst (v := 1) dX6_takeOpening_24 (by decide) ?_
            refine x_ireturn dX6_takeOpening_25 rfl rfl ?_
            exact ⟨I2, sp2, true, rfl, rfl, hF, hs, fun _ => ⟨tu2, cd2, hp, hc2, fun z => (by rcases z with z | z <;> contradiction)⟩, fun z => (by cases z)⟩
  exact K2 _ 0 sp tu cd I none (Nat.zero_le _) (Nat.le_refl _) xFrm.rf hc pR.rf (Nat.lt_succ_self _)

theorem pS_e {T : Nat → Int32} {en sp : Nat} {tu : List Bool} {cd : List Int32} (ho : tuO tu) (h4 : tu = [] ∨ ¬ hrT T en sp = 41) (h1 : ¬ hrT T en sp = 124) (h3 : ¬ hrT T en sp = 38) : pS T en (1, sp, tu, cd) = if tu = [] then (3, sp, [], cd) else (2, sp, [], []) := by
  rcases ho with rfl | ⟨t, rfl⟩
  · rw [pS_n, if_neg h1, if_neg h3, if_pos rfl]
  · rcases h4 with h4 | h4
    · cases h4
    · rw [pS_f, if_neg h4, if_neg h1, if_neg h3, if_neg (by simp)]
set_option maxHeartbeats 4000000 in
set_option maxRecDepth 100000 in
theorem m_Reader_readCondition {g : xG} {nx : Nat} {sh : Nat → Nat × Nat} {P : Nat → Nat → Option Nat} {I : Nat → Nat → Int32} (hx : xFx sh P) {T : Nat → Int32} {en sp : Nat} (hr : xRr I T en sp) (hcd : I 97 5 = nI 0) (h1 : 0 < sp) (hT7 : ∀ j, j < en → 0 ≤ T j ∧ T j ≤ 127) : xMet g Y_Reader_readCondition 6 0 0 [.ref 97] (nx, sh, P, I) (fun r σ => ∃ (I1 : Nat → Nat → Int32) (sp1 : Nat) (b : Bool), r = some (.int (bv b)) ∧ σ = (nx, sh, P, I1) ∧ xFrm [97, 99] I I1 ∧ (b = true → ∃ cd1 : List Int32, pR T en (0, sp, [], []) (3, sp1, [], cd1) ∧ xRc I1 T en sp1 [] cd1) ∧ (b = false → pR T en (0, sp, [], []) (2, sp1, [], []) ∧ xRr I1 T en sp1)) := by
  refine xMet.of [some (.ref 97), none] (by decide +kernel) (Nat.le_of_ble_eq_true rfl) rfl ?_
  obtain ⟨h2, h3, hen, hse, hT⟩ := id hr
  have hc0 : xRc (xup I 97 6 0) T en sp [] [] := ⟨hr.fr (xf (by decide)) (xf (by decide)) (xup_n (by decide)), xs, Nat.zero_le _, tB.nil, (xf (by decide)).trans hcd, h1, fun j hj => absurd hj (Nat.not_lt_zero j)⟩
  refine x_aload_n dX6_readCondition_0 rfl ?_
  refine x_iconst (v := 0) dX6_readCondition_1 (by decide) ?_
  refine x_puti dX6_readCondition_2 F_Reader_28 T_6_6 (fxo_97 hx) rfl rfl rfl ?_
  refine x_iconst (v := 0) dX6_readCondition_5 (by decide) ?_
  refine x_istore_n dX6_readCondition_6 (Nat.le_of_ble_eq_true rfl) ?_
  try simp only [xst, xst2, xclr, xset, xwide]
  have K7 : ∀ (fuel : Nat) (i sp2 : Nat) (tu2 : List Bool) (cd2 : List Int32) (I2 : Nat → Nat → Int32) (hi : 3 * i ≤ sp2) (hs : sp ≤ sp2) (hF : xFrm [97, 99] I I2) (hc2 : xRc I2 T en sp2 tu2 cd2) (hp : pR T en (0, sp, [], []) (0, sp2, tu2, cd2)), 101 - i < fuel → xX g Y_Reader_readCondition 6 0 0 (fun r σ => ∃ (I1 : Nat → Nat → Int32) (sp1 : Nat) (b : Bool), r = some (.int (bv b)) ∧ σ = (nx, sh, P, I1) ∧ xFrm [97, 99] I I1 ∧ (b = true → ∃ cd1 : List Int32, pR T en (0, sp, [], []) (3, sp1, [], cd1) ∧ xRc I1 T en sp1 [] cd1) ∧ (b = false → pR T en (0, sp, [], []) (2, sp1, [], []) ∧ xRr I1 T en sp1)) 7 [some (.ref 97), some (.int (nI i))] [] (nx, sh, P, I2) := by
    intro fuel
    induction fuel with
    | zero => intro i sp2 tu2 cd2 I2 hi hs hF hc2 hp hm; exact absurd hm (Nat.not_lt_zero _)
    | succ fuel ih7 =>
      intro i sp2 tu2 cd2 I2 hi hs hF hc2 hp hm
      have hse2 := hc2.1.2.2.2.1
      refine x_iload_n dX6_readCondition_7 rfl ?_
      refine x_bipush (v := 100) dX6_readCondition_8 (by decide) ?_
      refine x_icmp_ge (tgt := 83) dX6_readCondition_10 rfl (fun c10 => ?_) (fun c10 => ?_)
      · exact absurd ((nI_leI (a := 100) (by decide) (by omega)).mp c10) (by omega)
      · refine x_aload_n dX6_readCondition_13 rfl ?_
        refine x_callV (k2 := 0) (n2 := 0) dX6_readCondition_14 LV_Reader_113 (m_Reader_takeOpening (I := I2) hx hc2) rfl rfl (fxo_97 hx) rfl (Nat.le_of_ble_eq_true rfl) (Nat.le_of_ble_eq_true rfl) (Nat.le_of_ble_eq_true rfl) (Nat.le_of_ble_eq_true rfl) ?_
        rintro _ _ ⟨I3, sp3, b3, rfl, rfl, hF3, hs3, hy3, hn3⟩
        refine x_if_eq (tgt := 27) dX6_readCondition_17 rfl (fun c17 => ?_) (fun c17 => ?_)
        · obtain ⟨hp3, hr3⟩ := hn3 (bv_0 c17)
          refine x_iconst (v := 0) dX6_readCondition_27 (by decide) ?_
          refine x_ireturn dX6_readCondition_28 rfl rfl ?_
          exact ⟨I3, sp3, false, rfl, rfl, hF.ts hF3, fun z => (by cases z), fun _ => ⟨hp.tr hp3, hr3⟩⟩
        · obtain ⟨tu3, cd3, hp3, hc3, hno3⟩ := hy3 (bv_1 c17)
          have hse3 := hc3.1.2.2.2.1
          have hcl3 := hc3.2.2.2.2.2.1
          refine x_aload_n dX6_readCondition_20 rfl ?_
          refine x_callV (k2 := 0) (n2 := 0) dX6_readCondition_21 LV_Reader_116 (c_test (I := I3) hx hc3 hT7 (by omega)) rfl rfl (fxo_97 hx) rfl (Nat.le_of_ble_eq_true rfl) (Nat.le_of_ble_eq_true rfl) (Nat.le_of_ble_eq_true rfl) (Nat.le_of_ble_eq_true rfl) ?_
          rintro _ _ ⟨I4, rfl, rfl, hF4, hr4, hy4⟩
          refine x_if_ne (tgt := 29) dX6_readCondition_24 rfl (fun c24 => ?_) (fun c24 => ?_)
          · have hw := Bool.eq_false_iff.mpr (nbv_1 c24)
            obtain ⟨hge, hc4⟩ := hy4 hw
            have hp4 : pR T en (0, sp, [], []) (1, tsS T en sp3, tu3, cd3 ++ [tsT T en sp3]) := (hp.tr hp3).tr (pR.st (by rw [pS_0, if_neg hno3, hw, if_neg Bool.false_ne_true]))
            refine x_aload_n dX6_readCondition_29 rfl ?_
            refine x_callV (k2 := 0) (n2 := 0) dX6_readCondition_30 LV_Reader_119 (m_Reader_closeTurns (I := I4) hx hc4) rfl rfl (fxo_97 hx) rfl (Nat.le_of_ble_eq_true rfl) (Nat.le_of_ble_eq_true rfl) (Nat.le_of_ble_eq_true rfl) (Nat.le_of_ble_eq_true rfl) ?_
            rintro _ _ ⟨I5, tu5, rfl, rfl, hF5, hp5, hc5, ho5, hl5⟩
            refine x_aload_n dX6_readCondition_33 rfl ?_
            refine x_callV (k2 := 0) (n2 := 0) dX6_readCondition_34 LV_Reader_122 (m_Reader_takeClosing (I := I5) hx hc5 ho5) rfl rfl (fxo_97 hx) rfl (Nat.le_of_ble_eq_true rfl) (Nat.le_of_ble_eq_true rfl) (Nat.le_of_ble_eq_true rfl) (Nat.le_of_ble_eq_true rfl) ?_
            rintro _ _ ⟨I6, sp6, tu6, cd6, rfl, rfl, hF6, hp6, hc6, ho6, h46, hs6⟩
            replace hF6 : xFrm [97, 99] I I6 := (((hF.ts hF3).ts hF4).ts hF5.c9).ts hF6
            replace hp6 := (hp4.tr hp5).tr hp6
            have hcl6 := hc6.2.2.2.2.2.1
            refine x_aload_n dX6_readCondition_37 rfl ?_
            refine x_bipush (v := 124) dX6_readCondition_38 (by decide) ?_
            refine x_callV (k2 := 0) (n2 := 0) dX6_readCondition_40 LV_Reader_52 (c_take (I := I6) (c := 124) hx hc6 (by decide)) rfl rfl (fxo_97 hx) rfl (Nat.le_of_ble_eq_true rfl) (Nat.le_of_ble_eq_true rfl) (Nat.le_of_ble_eq_true rfl) (Nat.le_of_ble_eq_true rfl) ?_
            rintro _ _ ⟨I7, rfl, rfl, hF7, hc7⟩
            refine x_if_eq (tgt := 55) dX6_readCondition_43 rfl (fun c43 => ?_) (fun c43 => ?_)
            · obtain ⟨h124, hms⟩ := mu_y (nbv_0 c43)
              rw [hms] at hc7
              refine x_aload_n dX6_readCondition_55 rfl ?_
              refine x_bipush (v := 38) dX6_readCondition_56 (by decide) ?_
              refine x_callV (k2 := 0) (n2 := 0) dX6_readCondition_58 LV_Reader_52 (c_take (I := I7) (c := 38) hx hc7 (by decide)) rfl rfl (fxo_97 hx) rfl (Nat.le_of_ble_eq_true rfl) (Nat.le_of_ble_eq_true rfl) (Nat.le_of_ble_eq_true rfl) (Nat.le_of_ble_eq_true rfl) ?_
              rintro _ _ ⟨I8, rfl, rfl, hF8, hc8⟩
              refine x_if_ne (tgt := 77) dX6_readCondition_61 rfl (fun c61 => ?_) (fun c61 => ?_)
              · obtain ⟨h38, hms2⟩ := mu_n (nbv_1 c61)
                rw [hms2] at hc8
                refine x_iinc (v := (nI (i + 1))) dX6_readCondition_77 rfl (nI_1 _) (Nat.le_of_ble_eq_true rfl) ?_
                try simp only [xst, xst2, xclr, xset, xwide]
                refine x_goto (tgt := 7) dX6_readCondition_80 rfl ?_
                exact ih7 (i + 1) (sp6 + 1) tu6 cd6 I8 (by omega) (by omega) ((hF6.ts hF7.c9).ts hF8.c9) hc8 (hp6.tr (pR_and ho6 h38)) (by omega)
              · obtain ⟨h38, hms2⟩ := mu_y (nbv_0 c61)
                rw [hms2] at hc8
                have hend := pS_e (cd := cd6) ho6 h46 h124 h38
                refine x_aload_n dX6_readCondition_64 rfl ?_
                refine y_geti dX6_readCondition_65 F_Reader_28 (fxo_97 hx) rfl hc8.2.1 ?_
                refine x_if_ne (tgt := 75) dX6_readCondition_68 rfl (fun c68 => ?_) (fun c68 => ?_)
                · have hn6 : ¬ tu6 = [] := fun z => c68 (by rw [z]; rfl)
                  refine x_iconst (v := 0) dX6_readCondition_75 (by decide) ?_
                  refine x_ireturn dX6_readCondition_76 rfl rfl ?_
                  rw [if_neg hn6] at hend
                  exact ⟨I8, sp6, false, rfl, rfl, (hF6.ts hF7.c9).ts hF8.c9, fun z => (by cases z), fun _ => ⟨hp6.tr (pR.st hend), hc8.1⟩⟩
                · have hn6 : tu6 = [] := tuO_l (by have h9 := (nI_eqI (a := tu6.length) (b := 0) (by have := hc8.2.2.1; omega) (by decide)).mp c68; omega)
                  subst hn6
                  refine x_iconst (v := 1) dX6_readCondition_71 (by decide) ?_
                  refine x_goto (tgt := 76) dX6_readCondition_72 rfl ?_
                  refine x_ireturn dX6_readCondition_76 rfl rfl ?_
                  rw [if_pos rfl] at hend
                  exact ⟨I8, sp6, true, rfl, rfl, (hF6.ts hF7.c9).ts hF8.c9, fun _ => ⟨cd6, hp6.tr (pR.st hend), hc8⟩, fun z => (by cases z)⟩
            · obtain ⟨h124, hms⟩ := mu_n (nbv_1 c43)
              rw [hms] at hc7
              refine x_aload_n dX6_readCondition_46 rfl ?_
              refine x_bipush (v := 124) dX6_readCondition_47 (by decide) ?_
              refine x_callV (k2 := 0) (n2 := 0) dX6_readCondition_49 LV_Reader_125 (c_emit (I := I7) (x := 124) hx hc7 (by omega)) rfl rfl (fxo_97 hx) rfl (Nat.le_of_ble_eq_true rfl) (Nat.le_of_ble_eq_true rfl) (Nat.le_of_ble_eq_true rfl) (Nat.le_of_ble_eq_true rfl) ?_
              rintro _ _ ⟨I8, rfl, rfl, hF8, hc8⟩
              skip
              refine x_goto (tgt := 77) dX6_readCondition_52 rfl ?_
              refine x_iinc (v := (nI (i + 1))) dX6_readCondition_77 rfl (nI_1 _) (Nat.le_of_ble_eq_true rfl) ?_
              try simp only [xst, xst2, xclr, xset, xwide]
              refine x_goto (tgt := 7) dX6_readCondition_80 rfl ?_
              exact ih7 (i + 1) (sp6 + 1) tu6 (cd6 ++ [124]) I8 (by omega) (by omega) (((hF6.ts hF7.c9).ts hF8)) hc8 (hp6.tr (pR_or ho6 h124)) (by omega)
          · have hw := nbv_0 c24
            refine x_iconst (v := 0) dX6_readCondition_27 (by decide) ?_
            refine x_ireturn dX6_readCondition_28 rfl rfl ?_
            exact ⟨I4, _, false, rfl, rfl, (hF.ts hF3).ts hF4, fun z => (by cases z), fun _ => ⟨(hp.tr hp3).tr (pR.st (by rw [pS_0, if_neg hno3, if_pos hw])), hr4⟩⟩
  exact K7 _ 0 sp [] [] _ (Nat.zero_le _) (Nat.le_refl _) (xFrs xFrm.rf) hc0 pR.rf (Nat.lt_succ_self _)
