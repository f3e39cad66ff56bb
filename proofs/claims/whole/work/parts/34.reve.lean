set_option maxHeartbeats 4000000 in
set_option maxRecDepth 100000 in
theorem r_everyX {g : xG} {nx : Nat} {sh : Nat → Nat × Nat} {P : Nat → Nat → Option Nat} {I : Nat → Nat → Int32} (hx : xFx sh P) {T : Nat → Int32} {en sp op ac mm : Nat} {m : Nat} (ihF : xFac g m) (hp : xPa I T en sp false op ac mm) (hom : op + m = 5) : xMet g Y_M_every (6 + 3 * m) 0 0 [.ref 127] (nx, sh, P, I) (xPq nx sh P I T en sp op ac mm (fun sp1 wr1 L => xRE T en sp op sp1 wr1 L ∧ (wr1 = false → ¬ hrT T en sp1 = 38))) := by
  refine xMet.of [some (.ref 127)] (by decide +kernel) (Nat.le_of_ble_eq_true rfl) rfl ?_
  obtain ⟨hq, h8, h4, ha4, hm, hms, hse, hT⟩ := id hp
  obtain ⟨h5, h6, h7, hen, hsp⟩ := id hq
  refine x_aload_n dX11_every_0 rfl ?_
  refine x_callV (k2 := 0) (n2 := 0) dX11_every_1 LV_M_102 (ihF _ _ _ I T en sp op ac mm hx hp hom) rfl rfl (fxo_127 hx) rfl (by omega) (Nat.le_of_ble_eq_true rfl) (Nat.le_of_ble_eq_true rfl) (Nat.le_of_ble_eq_true rfl) ?_
  rintro _ _ ⟨I1, sp1, w1, L1, rfl, rfl, t1, p1, hl1, hR1⟩
  have K4 : ∀ (fuel : Nat) (I2 : Nat → Nat → Int32) (sp2 : Nat) (w2 : Bool) (L2 : List Int32) (t2 : xPt I I2 ac mm L2) (p2 : xPa I2 T en sp2 w2 op ac (mm + L2.length)) (hl : sp + L2.length ≤ sp2) (hR : xRE T en sp op sp2 w2 L2), en - sp2 < fuel → xX g Y_M_every (6 + 3 * m) 0 0 (xPq nx sh P I T en sp op ac mm (fun sp1 wr1 L => xRE T en sp op sp1 wr1 L ∧ (wr1 = false → ¬ hrT T en sp1 = 38))) 4 [some (.ref 127)] [] (nx, sh, P, I2) := by
    intro fuel
    induction fuel with
    | zero => intro I2 sp2 w2 L2 t2 p2 hl hR hm; exact absurd hm (Nat.not_lt_zero _)
    | succ fuel ih4 =>
      intro I2 sp2 w2 L2 t2 p2 hl hR hm
      refine x_aload_n dX11_every_4 rfl ?_
      refine y_geti dX11_every_5 F_M_75 (fxo_127 hx) rfl p2.1.2.2.1 ?_
      refine x_if_ne (tgt := 43) dX11_every_8 rfl (fun c8 => ?_) (fun c8 => ?_)
      · refine x_return dX11_every_43 rfl ?_
        first | exact ⟨I2, sp2, w2, L2, rfl, rfl, t2, p2, hl, hR, fun z => absurd (by rw [z]; rfl) c8⟩ | exact ⟨I2, sp2, false, L2, rfl, rfl, t2, p2, hl, hR, fun _ => c17⟩
      · have hw2 : w2 = false := bv_0 c8
        subst hw2
        refine x_aload_n dX11_every_11 rfl ?_
        refine x_callV (k2 := 0) (n2 := 0) dX11_every_12 LV_M_79 (q_here hx p2) rfl rfl (fxo_127 hx) rfl (by omega) (Nat.le_of_ble_eq_true rfl) (Nat.le_of_ble_eq_true rfl) (Nat.le_of_ble_eq_true rfl) ?_
        rintro _ _ ⟨rfl, rfl⟩
        refine x_bipush (v := 38) dX11_every_15 (by decide) ?_
        refine x_icmp_ne (tgt := 43) dX11_every_17 rfl (fun c17 => ?_) (fun c17 => ?_)
        · refine x_return dX11_every_43 rfl ?_
          first | exact ⟨I2, sp2, w2, L2, rfl, rfl, t2, p2, hl, hR, fun z => absurd (by rw [z]; rfl) c8⟩ | exact ⟨I2, sp2, false, L2, rfl, rfl, t2, p2, hl, hR, fun _ => c17⟩
        · have hlt : sp2 < en := hrT_lt (T := T) (by rw [c17]; decide)
          refine x_aload_n dX11_every_20 rfl ?_
          refine x_dup dX11_every_21 rfl ?_
          refine y_geti dX11_every_22 F_M_69 (fxo_127 hx) rfl p2.1.1 ?_
          refine x_iconst (v := 1) dX11_every_25 (by decide) ?_
          refine x_iadd dX11_every_26 ?_
          rw [nI_1]
          refine x_puti dX11_every_27 F_M_69 T_11_5 (fxo_127 hx) rfl rfl rfl ?_
          obtain ⟨t3, p3⟩ := p2.sp hlt
          obtain ⟨I3, hI3⟩ : ∃ I3, I3 = xup I2 127 5 (nI (sp2 + 1)) := ⟨_, rfl⟩
          rw [← hI3] at t3 p3
          refine y_st (I' := I3) hI3.symm ?_
          refine x_aload_n dX11_every_30 rfl ?_
          refine x_callV (k2 := 0) (n2 := 0) dX11_every_31 LV_M_102 (ihF _ _ _ I3 T en (sp2 + 1) op ac (mm + L2.length) hx p3 hom) rfl rfl (fxo_127 hx) rfl (by omega) (Nat.le_of_ble_eq_true rfl) (Nat.le_of_ble_eq_true rfl) (Nat.le_of_ble_eq_true rfl) ?_
          rintro _ _ ⟨I4, sp4, w4, L4, rfl, rfl, t4, p4, hl4, hR4⟩
          have hk := p2.2.2.2.2.2.1
          refine x_aload_n dX11_every_34 rfl ?_
          refine x_bipush (v := (-2)) dX11_every_35 (by decide) ?_
          refine x_callV (k2 := 0) (n2 := 0) dX11_every_37 LV_M_105 (q_emits (I := I4) (x := -2) hx p4 (by omega)) rfl rfl (fxo_127 hx) rfl (by omega) (Nat.le_of_ble_eq_true rfl) (Nat.le_of_ble_eq_true rfl) (Nat.le_of_ble_eq_true rfl) ?_
          rintro _ _ ⟨I5, rfl, rfl, t5, p5⟩
          have t6 := t2.tr (L2 := []) ha4 t3
          rw [List.append_nil] at t6
          have t7 := t6.tr ha4 (t4.tr ha4 t5)
          refine x_goto (tgt := 4) dX11_every_40 rfl ?_
          exact ih4 I5 sp4 w4 (L2 ++ (L4 ++ emL w4 (-2))) t7 (by rw [List.length_append, List.length_append]; rw [Nat.add_assoc, Nat.add_assoc] at p5; exact p5) (by rw [List.length_append, List.length_append]; have := emL_l (wr := w4) (x := -2); omega) (hR.st c17 hR4) (by omega)
  exact K4 _ I1 sp1 w1 L1 t1 p1 hl1 hR1.e (Nat.lt_succ_self _)

set_option maxHeartbeats 4000000 in
set_option maxRecDepth 100000 in
theorem r_someX {g : xG} {nx : Nat} {sh : Nat → Nat × Nat} {P : Nat → Nat → Option Nat} {I : Nat → Nat → Int32} (hx : xFx sh P) {T : Nat → Int32} {en sp op ac mm : Nat} {m : Nat} (ihE : xEve g m) (hp : xPa I T en sp false op ac mm) (hom : op + m = 5) : xMet g Y_M_some (7 + 3 * m) 0 0 [.ref 127] (nx, sh, P, I) (xPq nx sh P I T en sp op ac mm (fun sp1 wr1 L => xRS T en sp op sp1 wr1 L ∧ (wr1 = false → ¬ hrT T en sp1 = 38 ∧ ¬ hrT T en sp1 = 124))) := by
  refine xMet.of [some (.ref 127)] (by decide +kernel) (Nat.le_of_ble_eq_true rfl) rfl ?_
  obtain ⟨hq, h8, h4, ha4, hm, hms, hse, hT⟩ := id hp
  obtain ⟨h5, h6, h7, hen, hsp⟩ := id hq
  refine x_aload_n dX11_some_0 rfl ?_
  refine x_callV (k2 := 0) (n2 := 0) dX11_some_1 LV_M_122 (ihE _ _ _ I T en sp op ac mm hx hp hom) rfl rfl (fxo_127 hx) rfl (by omega) (Nat.le_of_ble_eq_true rfl) (Nat.le_of_ble_eq_true rfl) (Nat.le_of_ble_eq_true rfl) ?_
  rintro _ _ ⟨I1, sp1, w1, L1, rfl, rfl, t1, p1, hl1, hR1, hE1⟩
  have K4 : ∀ (fuel : Nat) (I2 : Nat → Nat → Int32) (sp2 : Nat) (w2 : Bool) (L2 : List Int32) (t2 : xPt I I2 ac mm L2) (p2 : xPa I2 T en sp2 w2 op ac (mm + L2.length)) (hl : sp + L2.length ≤ sp2) (hR : xRS T en sp op sp2 w2 L2) (hE2 : w2 = false → ¬ hrT T en sp2 = 38), en - sp2 < fuel → xX g Y_M_some (7 + 3 * m) 0 0 (xPq nx sh P I T en sp op ac mm (fun sp1 wr1 L => xRS T en sp op sp1 wr1 L ∧ (wr1 = false → ¬ hrT T en sp1 = 38 ∧ ¬ hrT T en sp1 = 124))) 4 [some (.ref 127)] [] (nx, sh, P, I2) := by
    intro fuel
    induction fuel with
    | zero => intro I2 sp2 w2 L2 t2 p2 hl hR hE2 hm; exact absurd hm (Nat.not_lt_zero _)
    | succ fuel ih4 =>
      intro I2 sp2 w2 L2 t2 p2 hl hR hE2 hm
      refine x_aload_n dX11_some_4 rfl ?_
      refine y_geti dX11_some_5 F_M_75 (fxo_127 hx) rfl p2.1.2.2.1 ?_
      refine x_if_ne (tgt := 43) dX11_some_8 rfl (fun c8 => ?_) (fun c8 => ?_)
      · refine x_return dX11_some_43 rfl ?_
        first | exact ⟨I2, sp2, w2, L2, rfl, rfl, t2, p2, hl, hR, fun z => absurd (by rw [z]; rfl) c8⟩ | exact ⟨I2, sp2, false, L2, rfl, rfl, t2, p2, hl, hR, fun _ => ⟨hE2 rfl, c17⟩⟩
      · have hw2 : w2 = false := bv_0 c8
        subst hw2
        refine x_aload_n dX11_some_11 rfl ?_
        refine x_callV (k2 := 0) (n2 := 0) dX11_some_12 LV_M_79 (q_here hx p2) rfl rfl (fxo_127 hx) rfl (by omega) (Nat.le_of_ble_eq_true rfl) (Nat.le_of_ble_eq_true rfl) (Nat.le_of_ble_eq_true rfl) ?_
        rintro _ _ ⟨rfl, rfl⟩
        refine x_bipush (v := 124) dX11_some_15 (by decide) ?_
        refine x_icmp_ne (tgt := 43) dX11_some_17 rfl (fun c17 => ?_) (fun c17 => ?_)
        · refine x_return dX11_some_43 rfl ?_
          first | exact ⟨I2, sp2, w2, L2, rfl, rfl, t2, p2, hl, hR, fun z => absurd (by rw [z]; rfl) c8⟩ | exact ⟨I2, sp2, false, L2, rfl, rfl, t2, p2, hl, hR, fun _ => ⟨hE2 rfl, c17⟩⟩
        · have hlt : sp2 < en := hrT_lt (T := T) (by rw [c17]; decide)
          refine x_aload_n dX11_some_20 rfl ?_
          refine x_dup dX11_some_21 rfl ?_
          refine y_geti dX11_some_22 F_M_69 (fxo_127 hx) rfl p2.1.1 ?_
          refine x_iconst (v := 1) dX11_some_25 (by decide) ?_
          refine x_iadd dX11_some_26 ?_
          rw [nI_1]
          refine x_puti dX11_some_27 F_M_69 T_11_5 (fxo_127 hx) rfl rfl rfl ?_
          obtain ⟨t3, p3⟩ := p2.sp hlt
          obtain ⟨I3, hI3⟩ : ∃ I3, I3 = xup I2 127 5 (nI (sp2 + 1)) := ⟨_, rfl⟩
          rw [← hI3] at t3 p3
          refine y_st (I' := I3) hI3.symm ?_
          refine x_aload_n dX11_some_30 rfl ?_
          refine x_callV (k2 := 0) (n2 := 0) dX11_some_31 LV_M_122 (ihE _ _ _ I3 T en (sp2 + 1) op ac (mm + L2.length) hx p3 hom) rfl rfl (fxo_127 hx) rfl (by omega) (Nat.le_of_ble_eq_true rfl) (Nat.le_of_ble_eq_true rfl) (Nat.le_of_ble_eq_true rfl) ?_
          rintro _ _ ⟨I4, sp4, w4, L4, rfl, rfl, t4, p4, hl4, hR4, hE4⟩
          have hk := p2.2.2.2.2.2.1
          refine x_aload_n dX11_some_34 rfl ?_
          refine x_bipush (v := (-3)) dX11_some_35 (by decide) ?_
          refine x_callV (k2 := 0) (n2 := 0) dX11_some_37 LV_M_105 (q_emits (I := I4) (x := -3) hx p4 (by omega)) rfl rfl (fxo_127 hx) rfl (by omega) (Nat.le_of_ble_eq_true rfl) (Nat.le_of_ble_eq_true rfl) (Nat.le_of_ble_eq_true rfl) ?_
          rintro _ _ ⟨I5, rfl, rfl, t5, p5⟩
          have t6 := t2.tr (L2 := []) ha4 t3
          rw [List.append_nil] at t6
          have t7 := t6.tr ha4 (t4.tr ha4 t5)
          refine x_goto (tgt := 4) dX11_some_40 rfl ?_
          exact ih4 I5 sp4 w4 (L2 ++ (L4 ++ emL w4 (-3))) t7 (by rw [List.length_append, List.length_append]; rw [Nat.add_assoc, Nat.add_assoc] at p5; exact p5) (by rw [List.length_append, List.length_append]; have := emL_l (wr := w4) (x := -3); omega) (hR.st c17 hR4) hE4 (by omega)
  exact K4 _ I1 sp1 w1 L1 t1 p1 hl1 hR1.s hE1 (Nat.lt_succ_self _)

theorem r_par {g : xG} : ∀ m, xFac g m ∧ xEve g m ∧ xSom g m
  | 0 => by
    have f : xFac g 0 := fun nx sh P I T en sp op ac mm hx hp hom => r_factorX (d1 := 0) (d2 := 0) hx hp (by omega) (by omega) (by omega) (by omega) (fun h => by omega) (fun h => by omega)
    have e : xEve g 0 := fun nx sh P I T en sp op ac mm hx hp hom => r_everyX hx f hp hom
    exact ⟨f, e, fun nx sh P I T en sp op ac mm hx hp hom => r_someX hx e hp hom⟩
  | m + 1 => by
    obtain ⟨f0, e0, s0⟩ := r_par (g := g) m
    have f : xFac g (m + 1) := fun nx sh P I T en sp op ac mm hx hp hom => r_factorX (d1 := 5 + 3 * m) (d2 := 7 + 3 * m) hx hp (by omega) (by omega) (by omega) (by omega)
      (fun h nx sh P I T en sp op1 ac mm hx hp ho => f0 nx sh P I T en sp op1 ac mm hx hp (by omega)) (fun h nx sh P I T en sp op1 ac mm hx hp ho => s0 nx sh P I T en sp op1 ac mm hx hp (by omega))
    have e : xEve g (m + 1) := fun nx sh P I T en sp op ac mm hx hp hom => r_everyX hx f hp hom
    exact ⟨f, e, fun nx sh P I T en sp op ac mm hx hp hom => r_someX hx e hp hom⟩