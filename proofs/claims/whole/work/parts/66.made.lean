/-! the class: made -/
theorem wo_A {s t : Nat → Int32} (hA : ∀ j, ¬ (22 ≤ j ∧ j < 26) → t j = s j) {c : Nat} {base purse day : Int32} (hc : c < 4) : wo t c base purse day = wo s c base purse day := by
  have hL : ∀ f, LK t f = LK s f := fun f => by
    have e8 : t 8 = s 8 := hA 8 (by omega)
    unfold LK
    rw [e8, hA (227 + (s 8).toNatClampNeg) (by omega)]
    rw [show (fun i => t (232 + 140 * (s 8).toNatClampNeg + i)) = fun i => s (232 + 140 * (s 8).toNatClampNeg + i) from funext fun i => hA _ (by omega)]
  have u1 : t (10 + c) = s (10 + c) := hA _ (by omega)
  have u2 : t (14 + c) = s (14 + c) := hA _ (by omega)
  have hX : xFa t c base purse day = xFa s c base purse day := by
    funext j
    match j with
    | 0 => rfl
    | 1 => exact u1
    | 2 => exact u2
    | 3 => rfl
    | 4 => rfl
    | j + 5 => rfl
  unfold wo
  rw [hL, hX, u1, u2, hA (26 + 4 * c + (day - day / 4 * 4).toNatClampNeg) (by omega)]
theorem pwV_A {s t : Nat → Int32} (hR : RI s) (hA : ∀ j, ¬ (22 ≤ j ∧ j < 26) → t j = s j) {pu : Nat → Nat} : pwV t pu = pwV s pu := by
  have h4 := hR.c0.2
  have e : cN t 0 = cN s 0 := congrArg Int32.toNatClampNeg (hA 0 (by omega))
  funext c
  unfold pwV
  rw [e]
  by_cases h : c < cN s 0
  · rw [if_pos h, if_pos h, wo_A hA (by omega), hA (18 + c) (by omega), hA 9 (by omega)]
  · rw [if_neg h, if_neg h]
theorem mdU_pu {t : Nat → Int32} {p : Int32} (hR : RI t) (hlt : ¬ (pyA t p 0).1 = 1000000) {c : Nat} (hc : c < 4) : ∃ q, q ≤ puN t c ∧ (pyA t p 0).2.2 c = nI q ∧ puN (mdU t (pyA t p 0)) c = puN t c - q := by
  obtain ⟨q, hq, e⟩ := pyA_W (s := t) (p := p) hlt c hc
  refine ⟨q, hq, e, ?_⟩
  have h0 : mdU t (pyA t p 0) 0 = t 0 := if_neg (by omega)
  have hcN : cN (mdU t (pyA t p 0)) 0 = cN t 0 := congrArg Int32.toNatClampNeg h0
  unfold puN at hq ⊢
  rw [hcN]
  by_cases h : c < cN t 0
  · obtain ⟨x, hx9, e2⟩ := pu_of hR h
    rw [if_pos h] at hq ⊢
    rw [if_pos h]
    have e3 : mdU t (pyA t p 0) (22 + c) = t (22 + c) - (pyA t p 0).2.2 c := by
      show (if 22 ≤ 22 + c ∧ 22 + c < 22 + cN t 0 then t (22 + c) - (pyA t p 0).2.2 (22 + c - 22) else _) = _
      rw [if_pos ⟨by omega, by omega⟩, show 22 + c - 22 = c by omega]
    rw [e2, nI_clamp (by omega)] at hq
    rw [e3, e2, e, nI_subN hq, nI_clamp (by omega), nI_clamp (by omega)]
  · rw [if_neg h] at hq ⊢
    rw [if_neg h, Nat.zero_sub]
set_option maxHeartbeats 4000000 in
set_option maxRecDepth 100000 in
theorem m_Payer_payPlanned {g : xG} {nx : Nat} {sh : Nat → Nat × Nat} {P : Nat → Nat → Option Nat} {I : Nat → Nat → Int32} (hx : xFx sh P) {s : Nat → Int32} (hW : xWN nx sh P I s) (hR : RI s) (hpy : xPy I s (puN s)) : xMet g Y_Payer_payPlanned 5 0 0 [.ref 109] (nx, sh, P, I) (fun r σ => ∃ I1 : Nat → Nat → Int32, ∃ t : Nat → Int32, r = some (.int (mdS s (cN s 5)).2.1) ∧ σ = (nx, sh, P, I1) ∧ xFrm [80, 110, 111, 113, 114, 115, 116] I I1 ∧ t = (mdS s (cN s 5)).1 ∧ RI t ∧ (∀ j, ¬ (22 ≤ j ∧ j < 26) → t j = s j) ∧ xPy I1 s (puN t)) := by
  refine xMet.of [some (.ref 109), none, none] (by decide +kernel) (Nat.le_of_ble_eq_true rfl) rfl ?_
  obtain ⟨⟨tTape, tCoins, tWares, tBuys, tSlates, tPlans, tBooked⟩, ⟨cTape, cCoins, cWares, cBuys, cSlates, cPlans, cBooked⟩, hW7, hW9, hL⟩ := id hW
  obtain ⟨⟨n0, b0, e0⟩, ⟨n1, b1, e1⟩, ⟨n2, b2, e2⟩, ⟨n3, b3, e3⟩, ⟨n4, b4, e4⟩, ⟨n5, b5, e5⟩, ⟨n6, b6, e6⟩, ⟨n7, b7, e7⟩, ⟨n9, b9, e9⟩⟩ := hR.k
  have k7 : cN s 7 = n7 := cN_of e7 (by omega)
  rw [k7] at tTape cTape
  have k0 : cN s 0 = n0 := cN_of e0 (by omega)
  rw [k0] at tCoins cCoins
  have k1 : cN s 1 = n1 := cN_of e1 (by omega)
  rw [k1] at tWares cWares
  have k3 : cN s 3 = n3 := cN_of e3 (by omega)
  rw [k3] at tBuys cBuys
  have k4 : cN s 4 = n4 := cN_of e4 (by omega)
  rw [k4] at tSlates cSlates
  have k5 : cN s 5 = n5 := cN_of e5 (by omega)
  rw [k5] at tPlans cPlans
  have k6 : cN s 6 = n6 := cN_of e6 (by omega)
  rw [k6] at tBooked cBooked
  refine x_iconst (v := 0) dX5_payPlanned_0 (by decide) ?_
  refine x_istore_n dX5_payPlanned_1 (Nat.le_of_ble_eq_true rfl) ?_
  try simp only [xst, xst2, xclr, xset, xwide]
  have K2 : ∀ (fuel : Nat) (i : Nat) (t : Nat → Int32) (v2 : Option Value) (I2 : Nat → Nat → Int32) (hi : i ≤ n5) (hM : mdS s i = (t, nI i, true)) (hRt : RI t) (hA : ∀ j, ¬ (22 ≤ j ∧ j < 26) → t j = s j) (hF : xFrm [80, 110, 111, 113, 114, 115, 116] I I2) (hpy : xPy I2 s (puN t)), n5 - i < fuel → xX g Y_Payer_payPlanned 5 0 0 (fun r σ => ∃ I1 : Nat → Nat → Int32, ∃ t : Nat → Int32, r = some (.int (mdS s (cN s 5)).2.1) ∧ σ = (nx, sh, P, I1) ∧ xFrm [80, 110, 111, 113, 114, 115, 116] I I1 ∧ t = (mdS s (cN s 5)).1 ∧ RI t ∧ (∀ j, ¬ (22 ≤ j ∧ j < 26) → t j = s j) ∧ xPy I1 s (puN t)) 2 [some (.ref 109), some (.int (nI i)), v2] [] (nx, sh, P, I2) := by
    intro fuel
    induction fuel with
    | zero => intro i t v2 I2 hi hM hRt hA hF hpy hm; exact absurd hm (Nat.not_lt_zero _)
    | succ fuel ih2 =>
      intro i t v2 I2 hi hM hRt hA hF hpy hm
      have hW2 := hW.fl hF
      have tPl2 : xTb sh P I2 76 77 1 6 n5 := tPlans.other (hF 76 (by decide))
      have e77 : I2 77 = I 77 := hF 77 (by decide)
      refine x_iload_n dX5_payPlanned_2 rfl ?_
      refine x_aload_n dX5_payPlanned_3 rfl ?_
      refine y_getr dX5_payPlanned_4 F_Payer_34 (fxo_109 hx) rfl (fxp_109_0 hx) ?_
      refine y_getr dX5_payPlanned_7 F_Payer_95 (fxo_65 hx) rfl (fxp_65_5 hx) ?_
      refine x_callV (k2 := 0) (n2 := 0) dX5_payPlanned_10 LV_Payer_98 (m_Table_rows tPl2) rfl rfl (fxo_76 hx) rfl (Nat.le_of_ble_eq_true rfl) (Nat.le_of_ble_eq_true rfl) (Nat.le_of_ble_eq_true rfl) (Nat.le_of_ble_eq_true rfl) ?_
      rintro _ _ ⟨rfl, rfl⟩
      refine x_icmp_ge (tgt := 81) dX5_payPlanned_13 rfl (fun c13 => ?_) (fun c13 => ?_)
      · have hie : i = n5 := cge_t (by omega) hi c13
        have hfin : mdS s n5 = (t, nI i, true) := by rw [← hie]; exact hM
        refine x_aload_n dX5_payPlanned_81 rfl ?_
        refine y_getr dX5_payPlanned_82 F_Payer_34 (fxo_109 hx) rfl (fxp_109_0 hx) ?_
        refine y_getr dX5_payPlanned_85 F_Payer_95 (fxo_65 hx) rfl (fxp_65_5 hx) ?_
        refine x_callV (k2 := 0) (n2 := 0) dX5_payPlanned_88 LV_Payer_98 (m_Table_rows tPl2) rfl rfl (fxo_76 hx) rfl (Nat.le_of_ble_eq_true rfl) (Nat.le_of_ble_eq_true rfl) (Nat.le_of_ble_eq_true rfl) (Nat.le_of_ble_eq_true rfl) ?_
        rintro _ _ ⟨rfl, rfl⟩
        refine x_ireturn dX5_payPlanned_91 rfl nb_int ?_
        exact ⟨I2, t, by rw [k5, hfin, hie], rfl, hF, by rw [k5, hfin], hRt, hA, hpy⟩
      · have him : i < n5 := cge_f (by omega) hi c13
        refine x_aload_n dX5_payPlanned_16 rfl ?_
        refine x_aload_n dX5_payPlanned_17 rfl ?_
        refine y_getr dX5_payPlanned_18 F_Payer_34 (fxo_109 hx) rfl (fxp_109_0 hx) ?_
        refine y_getr dX5_payPlanned_21 F_Payer_95 (fxo_65 hx) rfl (fxp_65_5 hx) ?_
        refine x_iload_n dX5_payPlanned_24 rfl ?_
        refine x_iconst (v := 0) dX5_payPlanned_25 (by decide) ?_
        refine x_callV (k2 := 0) (n2 := 0) dX5_payPlanned_26 LV_Payer_44 (m_Table_get tPl2 (x := nI i) (z := nI 0)) rfl rfl (fxo_76 hx) rfl (Nat.le_of_ble_eq_true rfl) (Nat.le_of_ble_eq_true rfl) (Nat.le_of_ble_eq_true rfl) (Nat.le_of_ble_eq_true rfl) ?_
        rintro _ _ ⟨rfl, rfl⟩
        rw [show xTg I2 77 1 n5 (nI i) (nI 0) = s (95 + i) from by
          rw [xTg_in (r := i) (k := 0) him (by omega) (by omega) (by omega), e77]; exact cPlans i him]
        refine x_iconst (v := 0) dX5_payPlanned_29 (by decide) ?_
        refine x_callV (k2 := 0) (n2 := 0) dX5_payPlanned_30 LV_Payer_100 (m_Payer_fewest (I := I2) (p := s (95 + i)) (back := 0) hx hW2 hR (by decide) hpy) rfl rfl (fxo_109 hx) rfl (Nat.le_of_ble_eq_true rfl) (Nat.le_of_ble_eq_true rfl) (Nat.le_of_ble_eq_true rfl) (Nat.le_of_ble_eq_true rfl) ?_
        rintro _ _ ⟨I3, rfl, rfl, hF3, hb3⟩
        have hF3' : xFrm [80, 110, 111, 113, 114, 115, 116] I I3 := hF.tr (l1 := [80, 110, 111, 113, 114, 115, 116]) (l2 := [113, 114, 115, 116]) hF3
        have hpr := (pyR hRt (p := s (95 + i)) (back := 0) (b0 := I2 116) (by decide)).1
        rw [pwV_A hR hA, show cN t 0 = cN s 0 from congrArg Int32.toNatClampNeg (hA 0 (by omega))] at hpr
        refine x_bipush (v := (-5)) dX5_payPlanned_33 (by decide) ?_
        refine x_icmp_ne (tgt := 40) dX5_payPlanned_35 rfl (fun c35 => ?_) (fun c35 => ?_)
        · have hq : (pyA t (s (95 + i)) 0).1 < 1000000 ∧ (¬ (pyA t (s (95 + i)) 0).1 = 1000000) ∧ ∀ c, c < 4 → I3 116 c = (pyA t (s (95 + i)) 0).2.2 c := by
            rcases hpr with ⟨q1, q2⟩ | ⟨q1, ⟨z, hz, ez⟩, q3⟩
            · exact absurd q1 c35
            · refine ⟨by rw [ez]; exact nI_lt (b := 1000000) (by omega) (by omega), by rw [ez]; exact fun y => by have := (nI_eqI (b := 1000000) (by omega) (by decide)).mp y; omega, fun c hc => by rw [hb3]; exact q3 c hc⟩
          obtain ⟨hq1, hq2, hq3⟩ := hq
          have hM2 : mdS s (i + 1) = (mdU t (pyA t (s (95 + i)) 0), nI (i + 1), true) := by
            show (if (mdS s i).2.2 = true then _ else mdS s i) = _
            rw [hM, if_pos rfl]
            show (if (pyA t (s (95 + i)) 0).1 < 1000000 then (mdU t (pyA t (s (95 + i)) 0), nI i + 1, true) else _) = _
            rw [if_pos hq1, ← nI_add]; rfl
          have hR2 : RI (mdU t (pyA t (s (95 + i)) 0)) := mdU_RI hRt hq1
          have hA2 : ∀ j, ¬ (22 ≤ j ∧ j < 26) → mdU t (pyA t (s (95 + i)) 0) j = s j := fun j hj => (if_neg (fun z => hj ⟨z.1, by have := hRt.c0.2; omega⟩)).trans (hA j hj)
          have hps : ∀ c, c < 4 → I3 110 c - I3 116 c = nI (puN (mdU t (pyA t (s (95 + i)) 0)) c) := fun c hc => by
            obtain ⟨q, hqq, e, e2⟩ := mdU_pu (p := s (95 + i)) hRt hq2 hc
            rw [hq3 c hc, e, hF3 110 (by decide), (hpy c hc).1, e2, nI_subN hqq]
          generalize hu : mdU t (pyA t (s (95 + i)) 0) = u at hM2 hR2 hA2 hps
          refine x_iconst (v := 0) dX5_payPlanned_40 (by decide) ?_
          refine x_istore_n dX5_payPlanned_41 (Nat.le_of_ble_eq_true rfl) ?_
          try simp only [xst, xst2, xclr, xset, xwide]
          have K42 : ∀ (fuel : Nat) (c : Nat) (I4 : Nat → Nat → Int32) (hc : c ≤ 4) (hF4 : xFrm [80, 110, 111, 113, 114, 115, 116] I I4) (h116 : I4 116 = I3 116) (hp : ∀ j, j < 4 → I4 110 j = if j < c then nI (puN u j) else I3 110 j), 4 - c < fuel → xX g Y_Payer_payPlanned 5 0 0 (fun r σ => ∃ I1 : Nat → Nat → Int32, ∃ t : Nat → Int32, r = some (.int (mdS s (cN s 5)).2.1) ∧ σ = (nx, sh, P, I1) ∧ xFrm [80, 110, 111, 113, 114, 115, 116] I I1 ∧ t = (mdS s (cN s 5)).1 ∧ RI t ∧ (∀ j, ¬ (22 ≤ j ∧ j < 26) → t j = s j) ∧ xPy I1 s (puN t)) 42 [some (.ref 109), some (.int (nI i)), some (.int (nI c))] [] (nx, sh, P, I4) := by
            intro fuel
            induction fuel with
            | zero => intro c I4 hc hF4 h116 hp hm; exact absurd hm (Nat.not_lt_zero _)
            | succ fuel ih42 =>
              intro c I4 hc hF4 h116 hp hm
              refine x_iload_n dX5_payPlanned_42 rfl ?_
              refine x_aload_n dX5_payPlanned_43 rfl ?_
              refine y_getr dX5_payPlanned_44 F_Payer_9 (fxo_109 hx) rfl (fxp_109_1 hx) ?_
              refine y_alen dX5_payPlanned_47 (fxk_110 hx) (by decide) ?_
              refine x_icmp_ge (tgt := 71) dX5_payPlanned_48 rfl (fun c48 => ?_) (fun c48 => ?_)
              · have hie : c = 4 := cge_t (by decide) hc c48
                have hp4 : ∀ j, j < 4 → I4 110 j = nI (puN u j) ∧ puN u j ≤ 9 := fun j hj => ⟨by rw [hp j hj, if_pos (by omega)], puN_bd hR2 j⟩
                refine x_aload_n dX5_payPlanned_71 rfl ?_
                refine x_callV (k2 := 0) (n2 := 0) dX5_payPlanned_72 LV_Payer_50 (m_Payer_weigh (I := I4) hx (hW.fl hF4) hR (pu := puN u) hp4) rfl rfl (fxo_109 hx) rfl (Nat.le_of_ble_eq_true rfl) (Nat.le_of_ble_eq_true rfl) (Nat.le_of_ble_eq_true rfl) (Nat.le_of_ble_eq_true rfl) ?_
                rintro _ _ ⟨I5, rfl, rfl, hF5, hpy5⟩
                refine x_iinc (v := (nI (i + 1))) dX5_payPlanned_75 rfl (nI_1 _) (Nat.le_of_ble_eq_true rfl) ?_
                try simp only [xst, xst2, xclr, xset, xwide]
                refine x_goto (tgt := 2) dX5_payPlanned_78 rfl ?_
                exact ih2 (i + 1) u _ _ (by omega) hM2 hR2 hA2 (hF4.tr (l1 := [80, 110, 111, 113, 114, 115, 116]) (l2 := [80, 111]) hF5) hpy5 (by omega)
              · have him4 : c < 4 := cge_f (by decide) hc c48
                have hpc : I4 110 c - I4 116 c = nI (puN u c) := by rw [hp c him4, if_neg (Nat.lt_irrefl _), h116]; exact hps c him4
                refine x_aload_n dX5_payPlanned_51 rfl ?_
                refine y_getr dX5_payPlanned_52 F_Payer_9 (fxo_109 hx) rfl (fxp_109_1 hx) ?_
                refine x_iload_n dX5_payPlanned_55 rfl ?_
                refine x_dup2 dX5_payPlanned_56 rfl rfl ?_
                refine y_iaload dX5_payPlanned_57 (fxk_110 hx) (vi rfl him4 (by decide)) (rI (j := c) (ci rfl (by omega)) rfl) ?_
                refine x_aload_n dX5_payPlanned_58 rfl ?_
                refine x_iload_n dX5_payPlanned_59 rfl ?_
                refine x_callV (k2 := 0) (n2 := 0) dX5_payPlanned_60 LV_Payer_103 (m_Payer_ofBest (I := I4) hx (c := c) him4) rfl rfl (fxo_109 hx) rfl (Nat.le_of_ble_eq_true rfl) (Nat.le_of_ble_eq_true rfl) (Nat.le_of_ble_eq_true rfl) (Nat.le_of_ble_eq_true rfl) ?_
                rintro _ _ ⟨rfl, rfl⟩
                refine x_isub dX5_payPlanned_63 ?_
                refine y_iastore dX5_payPlanned_64 (fxk_110 hx) (vi rfl him4 (by decide)) (ci rfl (by omega)) ?_
                refine x_iinc (v := (nI (c + 1))) dX5_payPlanned_65 rfl (nI_1 _) (Nat.le_of_ble_eq_true rfl) ?_
                try simp only [xst, xst2, xclr, xset, xwide]
                refine x_goto (tgt := 42) dX5_payPlanned_68 rfl ?_
                exact ih42 (c + 1) _ (by omega) (xFrs hF4) (by rw [xup_n (by decide)]; exact h116) (fun j hj => by
                  rw [xup_at]
                  by_cases hjc : j = c
                  · rw [if_pos ⟨rfl, hjc⟩, if_pos (by omega), hjc]; exact hpc
                  · rw [if_neg (fun y => hjc y.2), hp j hj]
                    by_cases h2 : j < c
                    · rw [if_pos h2, if_pos (by omega)]
                    · rw [if_neg h2, if_neg (by omega)]) (by omega)
          exact K42 _ 0 I3 (by decide) hF3' rfl (fun j hj => by rw [if_neg (Nat.not_lt_zero j)]) (Nat.lt_succ_self _)
        · have h6 : (pyA t (s (95 + i)) 0).1 = 1000000 := by
            rcases hpr with ⟨q1, q2⟩ | ⟨q1, ⟨z, hz, ez⟩, -⟩
            · exact q2
            · exact absurd (q1.symm.trans c35) (by rw [ez]; exact nI_m5 (by omega))
          have hfin : mdS s n5 = (t, nI i, false) := by
            have h9 := mdS_stop (s := s) (k := i + 1) (by show (if (mdS s i).2.2 = true then _ else mdS s i).2.2 = _; rw [hM, if_pos rfl, h6]; rfl) (n5 - (i + 1))
            rw [show i + 1 + (n5 - (i + 1)) = n5 by omega] at h9
            rw [h9]
            show (if (mdS s i).2.2 = true then _ else mdS s i) = _
            rw [hM, if_pos rfl]
            show (if (pyA t (s (95 + i)) 0).1 < 1000000 then _ else _) = _
            rw [h6, if_neg (by decide)]
          refine x_iload_n dX5_payPlanned_38 rfl ?_
          refine x_ireturn dX5_payPlanned_39 rfl nb_int ?_
          exact ⟨I3, t, by rw [k5, hfin], rfl, hF3', by rw [k5, hfin], hRt, hA, fun c hc => ⟨by rw [hF3 110 (by decide)]; exact (hpy c hc).1, (hpy c hc).2.1, by rw [hF3 111 (by decide)]; exact (hpy c hc).2.2⟩⟩
  exact K2 _ 0 s none I (Nat.zero_le _) rfl hR (fun _ _ => rfl) xFrm.rf hpy (Nat.lt_succ_self _)

theorem rcP_A {s t : Nat → Int32} (hR : RI s) (hRt : RI t) (hA : ∀ j, ¬ (22 ≤ j ∧ j < 26) → t j = s j) {I : Nat → Nat → Int32} (hpy : xPy I s (puN t)) : rcP (I 110) (I 111) 4 = rcS t (cN t 0) := by
  rw [rcP_e hRt (fun c hc => (hpy c hc).1) (fun c hc => by rw [pwV_A hR hA]; exact (hpy c hc).2.2) 4 (Nat.le_refl _), Nat.min_eq_right hRt.c0.2]
set_option maxHeartbeats 4000000 in
set_option maxRecDepth 100000 in
theorem m_C_made {g : xG} {nx : Nat} {sh : Nat → Nat × Nat} {P : Nat → Nat → Option Nat} {I : Nat → Nat → Int32} (hx : xFx sh P) {s : Nat → Int32} (hW : xWN nx sh P I s) (hR : RI s) {what : Int32} : xMet g Y_C_made 6 0 0 [.ref 64, .int what] (nx, sh, P, I) (fun r σ => ∃ I1 : Nat → Nat → Int32, r = some (.int (a_made s what)) ∧ σ = (nx, sh, P, I1) ∧ xFrm [80, 110, 111, 113, 114, 115, 116] I I1) := by
  refine xMet.of [some (.ref 64), some (.int what), none] (by decide +kernel) (Nat.le_of_ble_eq_true rfl) rfl ?_
  obtain ⟨⟨tTape, tCoins, tWares, tBuys, tSlates, tPlans, tBooked⟩, ⟨cTape, cCoins, cWares, cBuys, cSlates, cPlans, cBooked⟩, hW7, hW9, hL⟩ := id hW
  obtain ⟨⟨n0, b0, e0⟩, ⟨n1, b1, e1⟩, ⟨n2, b2, e2⟩, ⟨n3, b3, e3⟩, ⟨n4, b4, e4⟩, ⟨n5, b5, e5⟩, ⟨n6, b6, e6⟩, ⟨n7, b7, e7⟩, ⟨n9, b9, e9⟩⟩ := hR.k
  have k7 : cN s 7 = n7 := cN_of e7 (by omega)
  rw [k7] at tTape cTape
  have k0 : cN s 0 = n0 := cN_of e0 (by omega)
  rw [k0] at tCoins cCoins
  have k1 : cN s 1 = n1 := cN_of e1 (by omega)
  rw [k1] at tWares cWares
  have k3 : cN s 3 = n3 := cN_of e3 (by omega)
  rw [k3] at tBuys cBuys
  have k4 : cN s 4 = n4 := cN_of e4 (by omega)
  rw [k4] at tSlates cSlates
  have k5 : cN s 5 = n5 := cN_of e5 (by omega)
  rw [k5] at tPlans cPlans
  have k6 : cN s 6 = n6 := cN_of e6 (by omega)
  rw [k6] at tBooked cBooked
  refine x_iload_n dX10_made_0 rfl ?_
  refine x_iconst (v := 0) dX10_made_1 (by decide) ?_
  refine x_iconst (v := 1) dX10_made_2 (by decide) ?_
  refine x_callS (k2 := 0) (n2 := 0) dX10_made_3 LS_C_71 m_C_isOutside rfl rfl (Nat.le_of_ble_eq_true rfl) (Nat.le_of_ble_eq_true rfl) (Nat.le_of_ble_eq_true rfl) (Nat.le_of_ble_eq_true rfl) ?_
  rintro _ _ ⟨rfl, rfl⟩
  refine x_if_eq (tgt := 11) dX10_made_6 rfl (fun c6 => ?_) (fun c6 => ?_)
  · refine x_aload_n dX10_made_11 rfl ?_
    refine y_getr dX10_made_12 F_C_50 (fxo_64 hx) rfl (fxp_64_5 hx) ?_
    refine x_callV (k2 := 0) (n2 := 0) dX10_made_15 LV_C_137 (m_Payer_openPurse hx hW hR) rfl rfl (fxo_109 hx) rfl (Nat.le_of_ble_eq_true rfl) (Nat.le_of_ble_eq_true rfl) (Nat.le_of_ble_eq_true rfl) (Nat.le_of_ble_eq_true rfl) ?_
    rintro _ _ ⟨I1, rfl, rfl, hF1, hpy⟩
    have hW1 := hW.fl hF1
    refine x_aload_n dX10_made_18 rfl ?_
    refine y_getr dX10_made_19 F_C_50 (fxo_64 hx) rfl (fxp_64_5 hx) ?_
    refine x_callV (k2 := 0) (n2 := 0) dX10_made_22 LV_C_225 (m_Payer_payPlanned (I := I1) hx hW1 hR hpy) rfl rfl (fxo_109 hx) rfl (Nat.le_of_ble_eq_true rfl) (Nat.le_of_ble_eq_true rfl) (Nat.le_of_ble_eq_true rfl) (Nat.le_of_ble_eq_true rfl) ?_
    rintro _ _ ⟨I2, t, rfl, rfl, hF2, ht, hRt, hA, hpy2⟩
    have hF : xFrm [80, 110, 111, 113, 114, 115, 116] I I2 := hF1.tr (l1 := [80, 110, 111]) (l2 := [80, 110, 111, 113, 114, 115, 116]) hF2
    refine x_istore_n dX10_made_25 (Nat.le_of_ble_eq_true rfl) ?_
    try simp only [xst, xst2, xclr, xset, xwide]
    refine x_iload_n dX10_made_26 rfl ?_
    refine x_if_ne (tgt := 34) dX10_made_27 rfl (fun c27 => ?_) (fun c27 => ?_)
    · skip
      refine x_aload_n dX10_made_34 rfl ?_
      refine y_getr dX10_made_35 F_C_50 (fxo_64 hx) rfl (fxp_64_5 hx) ?_
      refine x_callV (k2 := 0) (n2 := 0) dX10_made_38 LV_C_140 (m_Payer_riches (I := I2) hx) rfl rfl (fxo_109 hx) rfl (Nat.le_of_ble_eq_true rfl) (Nat.le_of_ble_eq_true rfl) (Nat.le_of_ble_eq_true rfl) (Nat.le_of_ble_eq_true rfl) ?_
      rintro _ _ ⟨rfl, rfl⟩
      rw [rcP_A hR hRt hA hpy2, ht]
      refine x_ireturn dX10_made_41 rfl nb_int ?_
      exact ⟨I2, by unfold a_made; rw [if_pos (o_t c6), if_neg c27], rfl, hF⟩
    · skip
      refine x_iload_n dX10_made_30 rfl ?_
      refine x_goto (tgt := 41) dX10_made_31 rfl ?_
      refine x_ireturn dX10_made_41 rfl nb_int ?_
      exact ⟨I2, by unfold a_made; rw [if_pos (o_t c6), if_pos c27], rfl, hF⟩
  · refine x_iconst (v := (-1)) dX10_made_9 (by decide) ?_
    refine x_ireturn dX10_made_10 rfl nb_int ?_
    exact ⟨I, by unfold a_made; rw [if_neg (o_f c6)], rfl, xFrm.rf⟩
