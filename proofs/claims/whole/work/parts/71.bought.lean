/-! the class: bought -/
theorem bl_lh {I : Nat → Nat → Int32} {n : Nat} (hb : ∀ c, c < 5 → I 120 c = 0 ∧ I 121 c = nI (lnB n c - 1)) : xLH (I 120) (I 121) (lnB n) 5 := fun c hc => by
  obtain ⟨e1, e2⟩ := hb c hc
  have hl : 1 ≤ lnB n c ∧ lnB n c ≤ 5 := by unfold lnB; split <;> omega
  have e3 : (0 : Int32).toInt = 0 := rfl
  rw [e1, e2, nI_toInt (by omega), e3]
  omega
theorem sz_g {f : Nat → Int32} {d : Nat → Nat} (h : ∀ j, j < 5 → f j = nI (d j) ∧ d j ≤ 4) : xSz f 5 = nI (gS d 5 0) := by
  show ((((0 + abI (f 0)) + abI (f 1)) + abI (f 2)) + abI (f 3)) + abI (f 4) = nI (d 0 + (d 1 + (d 2 + (d 3 + (d 4 + 0)))))
  obtain ⟨a0, b0⟩ := h 0 (by decide)
  obtain ⟨a1, b1⟩ := h 1 (by decide)
  obtain ⟨a2, b2⟩ := h 2 (by decide)
  obtain ⟨a3, b3⟩ := h 3 (by decide)
  obtain ⟨a4, b4⟩ := h 4 (by decide)
  rw [a0, a1, a2, a3, a4, ab_n (by omega), ab_n (by omega), ab_n (by omega), ab_n (by omega), ab_n (by omega), Int32.zero_add, nI_add, nI_add, nI_add, nI_add]
  congr 1
  omega
theorem sm_g {f w : Nat → Int32} {d p : Nat → Nat} (h : ∀ j, j < 5 → f j = nI (d j)) (hw : ∀ j, j < 5 → w j = nI (p j)) : xSm f w 0 5 = nI (gS (fun c => d c * p c) 5 0) := by
  show ((((0 + f (0 + 0) * w 0) + f (0 + 1) * w 1) + f (0 + 2) * w 2) + f (0 + 3) * w 3) + f (0 + 4) * w 4 = nI (d 0 * p 0 + (d 1 * p 1 + (d 2 * p 2 + (d 3 * p 3 + (d 4 * p 4 + 0)))))
  rw [Nat.zero_add, Nat.zero_add, Nat.zero_add, Nat.zero_add, Nat.zero_add, h 0 (by decide), h 1 (by decide), h 2 (by decide), h 3 (by decide), h 4 (by decide), hw 0 (by decide), hw 1 (by decide), hw 2 (by decide), hw 3 (by decide), hw 4 (by decide), pk_mul, pk_mul, pk_mul, pk_mul, pk_mul, Int32.zero_add, nI_add, nI_add, nI_add, nI_add]
  congr 1
  omega
theorem pn_0 {s : Nat → Int32} (hR : RI s) {c : Nat} : pnB s c ≤ 99 := by
  by_cases h : c < cN s 1
  · exact (pn_e hR h).2
  · unfold pnB; rw [if_neg h]; decide
theorem gS_b {d : Nat → Nat} {M : Nat} (h : ∀ c, d c ≤ M) : gS d 5 0 ≤ 5 * M := by
  have a := h 0; have b := h 1; have c := h 2; have e := h 3; have f := h 4
  show d 0 + (d 1 + (d 2 + (d 3 + (d 4 + 0)))) ≤ _
  omega
set_option maxHeartbeats 4000000 in
set_option maxRecDepth 100000 in
theorem m_Basket_findAll {g : xG} {nx : Nat} {sh : Nat → Nat × Nat} {P : Nat → Nat → Option Nat} {I : Nat → Nat → Int32} (hx : xFx sh P) {s : Nat → Int32} (hW : xWN nx sh P I s) (hR : RI s) {l : Nat} (hl99 : l ≤ 99) : xMet g Y_Basket_findAll 2 0 0 [.ref 118, .int (nI l)] (nx, sh, P, I) (fun r σ => ∃ I1 : Nat → Nat → Int32, r = some (.int (boS (okBg s l) (fun i c => nI (dB (cN s 1) i c)) (I 124) (sfx (lnB (cN s 1)) 5 0)).1) ∧ σ = (nx, sh, P, I1) ∧ xFrm [120, 121, 122, 123, 124] I I1 ∧ I1 124 = (boS (okBg s l) (fun i c => nI (dB (cN s 1) i c)) (I 124) (sfx (lnB (cN s 1)) 5 0)).2) := by
  refine xMet.of [some (.ref 118), some (.int (nI l)), none, none, none] (by decide +kernel) (Nat.le_of_ble_eq_true rfl) rfl ?_
  obtain ⟨⟨tTape, tCoins, tWares, tBuys, tSlates, tPlans, tBooked⟩, ⟨cTape, cCoins, cWares, cBuys, cSlates, cPlans, cBooked⟩, hW7, hW9, hL⟩ := id hW
  obtain ⟨⟨n0, b0, e0⟩, ⟨n1, b1, e1⟩, ⟨n2, b2, e2⟩, ⟨n3, b3, e3⟩, ⟨n4, b4, e4⟩, ⟨n5, b5, e5⟩, ⟨n6, b6, e6⟩, ⟨n7, b7, e7⟩, ⟨n9, b9, e9⟩⟩ := hR.k
  have k7 : cN s 7 = n7 := cN_of e7 (by omega)
  rw [k7] at tTape cTape
  have k0 : cN s 0 = n0 := cN_of e0 (by omega)
  rw [k0] at tCoins cCoins
  have k1 : cN s 1 = n1 := cN_of e1 (by omega)
  rw [k1] at tWares cWares
  have k3 : cN s 3 = n3 := cN_of e3 (by omega)
  rw [k3] at tBuys cBuys
  have k4 : cN s 4 = n4 := cN_of e4 (by omega)
  rw [k4] at tSlates cSlates
  have k5 : cN s 5 = n5 := cN_of e5 (by omega)
  rw [k5] at tPlans cPlans
  have k6 : cN s 6 = n6 := cN_of e6 (by omega)
  rw [k6] at tBooked cBooked
  refine x_iconst (v := 0) dX1_findAll_0 (by decide) ?_
  refine x_istore_n dX1_findAll_1 (Nat.le_of_ble_eq_true rfl) ?_
  try simp only [xst, xst2, xclr, xset, xwide]
  have K2 : ∀ (fuel : Nat) (c : Nat) (I2 : Nat → Nat → Int32) (hc : c ≤ 5) (hF : xFrm [120, 121, 123] I I2) (hb : ∀ j, j < c → I2 120 j = 0 ∧ I2 121 j = nI (lnB (cN s 1) j - 1) ∧ I2 123 j = nI (pnB s j)), 5 - c < fuel → xX g Y_Basket_findAll 2 0 0 (fun r σ => ∃ I1 : Nat → Nat → Int32, r = some (.int (boS (okBg s l) (fun i c => nI (dB (cN s 1) i c)) (I 124) (sfx (lnB (cN s 1)) 5 0)).1) ∧ σ = (nx, sh, P, I1) ∧ xFrm [120, 121, 122, 123, 124] I I1 ∧ I1 124 = (boS (okBg s l) (fun i c => nI (dB (cN s 1) i c)) (I 124) (sfx (lnB (cN s 1)) 5 0)).2) 2 [some (.ref 118), some (.int (nI l)), some (.int (nI c)), none, none] [] (nx, sh, P, I2) := by
    intro fuel
    induction fuel with
    | zero => intro c I2 hc hF hb hm; exact absurd hm (Nat.not_lt_zero _)
    | succ fuel ih2 =>
      intro c I2 hc hF hb hm
      have tW2 : xTb sh P I2 70 71 1 5 n1 := tWares.other (hF 70 (by decide))
      have e71 : I2 71 = I 71 := hF 71 (by decide)
      refine x_iload_n dX1_findAll_2 rfl ?_
      refine x_aload_n dX1_findAll_3 rfl ?_
      refine y_getr dX1_findAll_4 F_Basket_20 (fxo_118 hx) rfl (fxp_118_2 hx) ?_
      refine y_alen dX1_findAll_7 (fxk_123 hx) (by decide) ?_
      refine x_icmp_ge (tgt := 57) dX1_findAll_8 rfl (fun c8 => ?_) (fun c8 => ?_)
      · have hie : c = 5 := cge_t (by decide) hc c8
        subst hie
        refine x_iconst (v := 0) dX1_findAll_57 (by decide) ?_
        refine x_istore_n dX1_findAll_58 (Nat.le_of_ble_eq_true rfl) ?_
        try simp only [xst, xst2, xclr, xset, xwide]
        refine x_aload_n dX1_findAll_59 rfl ?_
        refine y_getr dX1_findAll_60 F_Basket_14 (fxo_118 hx) rfl (fxp_118_1 hx) ?_
        refine x_callV (k2 := 0) (n2 := 0) dX1_findAll_63 LV_Basket_45 (m_Rows_start (I := I2) (xrB hx)) rfl rfl (fxo_119 hx) rfl (Nat.le_of_ble_eq_true rfl) (Nat.le_of_ble_eq_true rfl) (Nat.le_of_ble_eq_true rfl) (Nat.le_of_ble_eq_true rfl) ?_
        rintro _ _ ⟨rfl, rfl⟩
        rw [xPr_a (bl_lh (fun c hc => ⟨(hb c hc).1, (hb c hc).2.1⟩))]
        have hN9 := ln_n (n := cN s 1)
        have hb1 : ∀ c, c < 5 → va_up I2 122 (xTk (I2 120) (I2 122) 5) 120 c = 0 ∧ va_up I2 122 (xTk (I2 120) (I2 122) 5) 121 c = nI (lnB (cN s 1) c - 1) ∧ va_up I2 122 (xTk (I2 120) (I2 122) 5) 123 c = nI (pnB s c) := fun c hc => by rw [va_up_no (by decide), va_up_no (by decide), va_up_no (by decide)]; exact hb c hc
        have hr1 : xRwAt (va_up I2 122 (xTk (I2 120) (I2 122) 5) 120) (lnB (cN s 1)) 5 0 (va_up I2 122 (xTk (I2 120) (I2 122) 5) 122) := xRwAt.z (fun c hc => by rw [va_up_at, va_up_no (by decide)]; exact xTk_r hc)
        have hF1 : xFrm [120, 121, 122, 123, 124] I (va_up I2 122 (xTk (I2 120) (I2 122) 5)) := xFrv hF.mono
        have h124 : va_up I2 122 (xTk (I2 120) (I2 122) 5) 124 = I 124 := by rw [va_up_no (by decide)]; exact hF 124 (by decide)
        generalize va_up I2 122 (xTk (I2 120) (I2 122) 5) = I1 at hb1 hr1 hF1 h124 ⊢
        refine x_istore_n dX1_findAll_66 (Nat.le_of_ble_eq_true rfl) ?_
        try simp only [xst, xst2, xclr, xset, xwide]
        refine x_iconst (v := 0) dX1_findAll_67 (by decide) ?_
        refine x_istore dX1_findAll_68 (Nat.le_of_ble_eq_true rfl) ?_
        try simp only [xst, xst2, xclr, xset, xwide]
        have K70 : ∀ (fuel : Nat) (i : Nat) (I3 : Nat → Nat → Int32) (hi : i ≤ (sfx (lnB (cN s 1)) 5 0)) (hF : xFrm [120, 121, 122, 123, 124] I I3) (hb : ∀ c, c < 5 → I3 120 c = 0 ∧ I3 121 c = nI (lnB (cN s 1) c - 1) ∧ I3 123 c = nI (pnB s c)) (hr : xRwAt (I3 120) (lnB (cN s 1)) 5 i (I3 122)) (hbs : I3 124 = (boS (okBg s l) (fun i c => nI (dB (cN s 1) i c)) (I 124) i).2), (sfx (lnB (cN s 1)) 5 0) - i < fuel → xX g Y_Basket_findAll 2 0 0 (fun r σ => ∃ I1 : Nat → Nat → Int32, r = some (.int (boS (okBg s l) (fun i c => nI (dB (cN s 1) i c)) (I 124) (sfx (lnB (cN s 1)) 5 0)).1) ∧ σ = (nx, sh, P, I1) ∧ xFrm [120, 121, 122, 123, 124] I I1 ∧ I1 124 = (boS (okBg s l) (fun i c => nI (dB (cN s 1) i c)) (I 124) (sfx (lnB (cN s 1)) 5 0)).2) 70 [some (.ref 118), some (.int (nI l)), some (.int (boS (okBg s l) (fun i c => nI (dB (cN s 1) i c)) (I 124) i).1), some (.int (nI (sfx (lnB (cN s 1)) 5 0))), some (.int (nI i))] [] (nx, sh, P, I3) := by
          intro fuel
          induction fuel with
          | zero => intro i I3 hi hF hb hr hbs hm; exact absurd hm (Nat.not_lt_zero _)
          | succ fuel ih70 =>
            intro i I3 hi hF hb hr hbs hm
            have hat : ∀ c, c < 5 → I3 122 c = nI (dB (cN s 1) i c) := fun c hc => by rw [hr c hc, (hb c hc).1, Int32.zero_add]; rfl
            have hsz : xSz (I3 122) 5 = nI (gS (dB (cN s 1) i) 5 0) := sz_g (fun c hc => ⟨hat c hc, dB_4.1⟩)
            have hsm : xSm (I3 122) (I3 123) 0 5 = nI (gS (fun c => dB (cN s 1) i c * pnB s c) 5 0) := sm_g hat (fun c hc => (hb c hc).2.2)
            have g1 := gS_b (d := dB (cN s 1) i) (M := 4) (fun c => dB_4.1)
            have g2 := gS_b (d := fun c => dB (cN s 1) i c * pnB s c) (M := 4 * 99) (fun c => Nat.mul_le_mul dB_4.1 (pn_0 hR))
            have hlh := bl_lh (fun c hc => ⟨(hb c hc).1, (hb c hc).2.1⟩)
            refine x_iload dX1_findAll_70 rfl ?_
            refine x_iload_n dX1_findAll_72 rfl ?_
            refine x_icmp_ge (tgt := 129) dX1_findAll_73 rfl (fun c73 => ?_) (fun c73 => ?_)
            · have hie : i = (sfx (lnB (cN s 1)) 5 0) := cge_t (by omega) hi c73
              refine x_iload_n dX1_findAll_129 rfl ?_
              refine x_ireturn dX1_findAll_130 rfl nb_int ?_
              exact ⟨I3, by rw [hie], rfl, hF, by rw [hbs, hie]⟩
            · have him : i < (sfx (lnB (cN s 1)) 5 0) := cge_f (by omega) hi c73
              have J116 : ∀ (I4 : Nat → Nat → Int32) (ct : Int32) (hF3 : xFrm [120, 121, 122, 123, 124] I I4) (z1 : I4 120 = I3 120) (z2 : I4 121 = I3 121) (z3 : I4 122 = I3 122) (z4 : I4 123 = I3 123) (hct : ct = (boS (okBg s l) (fun i c => nI (dB (cN s 1) i c)) (I 124) (i + 1)).1) (hbs3 : I4 124 = (boS (okBg s l) (fun i c => nI (dB (cN s 1) i c)) (I 124) (i + 1)).2), xX g Y_Basket_findAll 2 0 0 (fun r σ => ∃ I1 : Nat → Nat → Int32, r = some (.int (boS (okBg s l) (fun i c => nI (dB (cN s 1) i c)) (I 124) (sfx (lnB (cN s 1)) 5 0)).1) ∧ σ = (nx, sh, P, I1) ∧ xFrm [120, 121, 122, 123, 124] I I1 ∧ I1 124 = (boS (okBg s l) (fun i c => nI (dB (cN s 1) i c)) (I 124) (sfx (lnB (cN s 1)) 5 0)).2) 116 [some (.ref 118), some (.int (nI l)), some (.int ct), some (.int (nI (sfx (lnB (cN s 1)) 5 0))), some (.int (nI i))] [] (nx, sh, P, I4) := by
                intro I4 ct hF3 z1 z2 z3 z4 hct hbs3
                subst hct
                refine x_aload_n dX1_findAll_116 rfl ?_
                refine y_getr dX1_findAll_117 F_Basket_14 (fxo_118 hx) rfl (fxp_118_1 hx) ?_
                refine x_callV (k2 := 0) (n2 := 0) dX1_findAll_120 LV_Basket_60 (m_Rows_step (I := I4) (xrB hx)) rfl rfl (fxo_119 hx) rfl (Nat.le_of_ble_eq_true rfl) (Nat.le_of_ble_eq_true rfl) (Nat.le_of_ble_eq_true rfl) (Nat.le_of_ble_eq_true rfl) ?_
                rintro _ _ ⟨rfl, rfl⟩
                refine x_iinc (v := (nI (i + 1))) dX1_findAll_123 rfl (nI_1 _) (Nat.le_of_ble_eq_true rfl) ?_
                try simp only [xst, xst2, xclr, xset, xwide]
                refine x_goto (tgt := 70) dX1_findAll_126 rfl ?_
                exact ih70 (i + 1) _ (by omega) (xFrv hF3) (fun c hc => by rw [va_up_no (by decide), va_up_no (by decide), va_up_no (by decide), z1, z2, z4]; exact hb c hc) (by rw [va_up_no (by decide), va_up_at, z1, z2, z3]; exact xRwAt.st hlh hr) (by rw [va_up_no (by decide)]; exact hbs3) (by omega)
              refine x_aload_n dX1_findAll_76 rfl ?_
              refine y_getr dX1_findAll_77 F_Basket_14 (fxo_118 hx) rfl (fxp_118_1 hx) ?_
              refine x_callV (k2 := 0) (n2 := 0) dX1_findAll_80 LV_Basket_49 (m_Rows_size (I := I3) (xrB hx)) rfl rfl (fxo_119 hx) rfl (Nat.le_of_ble_eq_true rfl) (Nat.le_of_ble_eq_true rfl) (Nat.le_of_ble_eq_true rfl) (Nat.le_of_ble_eq_true rfl) ?_
              rintro _ _ ⟨rfl, rfl⟩
              rw [hsz]
              refine x_iconst (v := 4) dX1_findAll_83 (by decide) ?_
              refine x_icmp_gt (tgt := 116) dX1_findAll_84 rfl (fun c84 => ?_) (fun c84 => ?_)
              · have hno : ¬ okBg s l i = true := fun y => by have h5 := (of_decide_eq_true y).1; exact Int32.not_lt.mpr (nI_le (b := 4) h5 (by decide)) c84
                exact J116 _ _ hF rfl rfl rfl rfl (by rw [boS_s, if_neg hno]) (by rw [boS_s, if_neg hno]; exact hbs)
              · have h4 : gS (dB (cN s 1) i) 5 0 ≤ 4 := (nI_leI (b := 4) (by omega) (by decide)).mp (Int32.not_lt.mp c84)
                refine x_aload_n dX1_findAll_87 rfl ?_
                refine y_getr dX1_findAll_88 F_Basket_14 (fxo_118 hx) rfl (fxp_118_1 hx) ?_
                refine x_aload_n dX1_findAll_91 rfl ?_
                refine y_getr dX1_findAll_92 F_Basket_20 (fxo_118 hx) rfl (fxp_118_2 hx) ?_
                refine x_callV (k2 := 0) (n2 := 0) dX1_findAll_95 LV_Basket_52 (m_Rows_sum (I := I3) (xrB hx) (fxk_123 hx)) rfl rfl (fxo_119 hx) rfl (Nat.le_of_ble_eq_true rfl) (Nat.le_of_ble_eq_true rfl) (Nat.le_of_ble_eq_true rfl) (Nat.le_of_ble_eq_true rfl) ?_
                rintro _ _ ⟨rfl, rfl⟩
                rw [hsm]
                refine x_iload_n dX1_findAll_98 rfl ?_
                refine x_icmp_ne (tgt := 116) dX1_findAll_99 rfl (fun c99 => ?_) (fun c99 => ?_)
                · have hno : ¬ okBg s l i = true := fun y => c99 (by rw [show gS (fun c => dB (cN s 1) i c * pnB s c) 5 0 = l from (of_decide_eq_true y).2])
                  exact J116 _ _ hF rfl rfl rfl rfl (by rw [boS_s, if_neg hno]) (by rw [boS_s, if_neg hno]; exact hbs)
                · have hyes : okBg s l i = true := decide_eq_true ⟨h4, (nI_eqI (by omega) (by omega)).mp c99⟩
                  refine x_iinc (v := ((boS (okBg s l) (fun i c => nI (dB (cN s 1) i c)) (I 124) i).1 + 1)) dX1_findAll_102 rfl rfl (Nat.le_of_ble_eq_true rfl) ?_
                  try simp only [xst, xst2, xclr, xset, xwide]
                  refine x_aload_n dX1_findAll_105 rfl ?_
                  refine y_getr dX1_findAll_106 F_Basket_14 (fxo_118 hx) rfl (fxp_118_1 hx) ?_
                  refine x_aload_n dX1_findAll_109 rfl ?_
                  refine y_getr dX1_findAll_110 F_Basket_24 (fxo_118 hx) rfl (fxp_118_3 hx) ?_
                  refine x_callV (k2 := 0) (n2 := 0) dX1_findAll_113 LV_Basket_56 (m_Rows_copyInto (I := I3) (xrB hx) (fxk_124 hx)) rfl rfl (fxo_119 hx) rfl (Nat.le_of_ble_eq_true rfl) (Nat.le_of_ble_eq_true rfl) (Nat.le_of_ble_eq_true rfl) (Nat.le_of_ble_eq_true rfl) ?_
                  rintro _ _ ⟨rfl, rfl⟩
                  exact J116 _ _ (xFrv hF) (va_up_no (by decide)) (va_up_no (by decide)) (va_up_no (by decide)) (va_up_no (by decide)) (by rw [boS_s, if_pos hyes]) (by rw [boS_s, if_pos hyes, va_up_at, hbs]; exact xTk_c hat)
        exact K70 _ 0 I1 (Nat.zero_le _) hF1 hb1 hr1 h124 (Nat.lt_succ_self _)
      · have him : c < 5 := cge_f (by decide) hc c8
        refine x_aload_n dX1_findAll_11 rfl ?_
        refine y_getr dX1_findAll_12 F_Basket_20 (fxo_118 hx) rfl (fxp_118_2 hx) ?_
        refine x_iload_n dX1_findAll_15 rfl ?_
        refine x_aload_n dX1_findAll_16 rfl ?_
        refine y_getr dX1_findAll_17 F_Basket_27 (fxo_118 hx) rfl (fxp_118_0 hx) ?_
        refine x_iload_n dX1_findAll_20 rfl ?_
        refine x_iconst (v := 0) dX1_findAll_21 (by decide) ?_
        refine x_callV (k2 := 0) (n2 := 0) dX1_findAll_22 LV_Basket_31 (m_Table_get tW2 (x := nI c) (z := nI 0)) rfl rfl (fxo_70 hx) rfl (Nat.le_of_ble_eq_true rfl) (Nat.le_of_ble_eq_true rfl) (Nat.le_of_ble_eq_true rfl) (Nat.le_of_ble_eq_true rfl) ?_
        rintro _ _ ⟨rfl, rfl⟩
        rw [show xTg I2 71 1 n1 (nI c) (nI 0) = nI (pnB s c) from by
          by_cases hz : c < n1
          · rw [xTg_in (r := c) (k := 0) hz (by omega) (by omega) (by omega), e71, cWares c hz]; exact (pn_e hR (by rw [k1]; exact hz)).1
          · rw [xTg_out (by omega) (by omega)]; unfold pnB; rw [k1, if_neg hz]; rfl]
        refine y_iastore dX1_findAll_25 (fxk_123 hx) (vi rfl him (by decide)) (ci rfl (by omega)) ?_
        have tW3 : xTb sh P (xup I2 123 c (nI (pnB s c))) 70 71 1 5 n1 := tW2.other (xup_n (by decide))
        refine x_aload_n dX1_findAll_26 rfl ?_
        refine y_getr dX1_findAll_27 F_Basket_14 (fxo_118 hx) rfl (fxp_118_1 hx) ?_
        have J48 : ∀ (a2 : Int32) (ha2 : a2 = nI (lnB (cN s 1) c - 1)), xX g Y_Basket_findAll 2 0 0 (fun r σ => ∃ I1 : Nat → Nat → Int32, r = some (.int (boS (okBg s l) (fun i c => nI (dB (cN s 1) i c)) (I 124) (sfx (lnB (cN s 1)) 5 0)).1) ∧ σ = (nx, sh, P, I1) ∧ xFrm [120, 121, 122, 123, 124] I I1 ∧ I1 124 = (boS (okBg s l) (fun i c => nI (dB (cN s 1) i c)) (I 124) (sfx (lnB (cN s 1)) 5 0)).2) 48 [some (.ref 118), some (.int (nI l)), some (.int (nI c)), none, none] [.int a2, .int 0, .int (nI c), .ref 119] (nx, sh, P, xup I2 123 c (nI (pnB s c))) := by
          intro a2 ha2
          refine x_callV (k2 := 0) (n2 := 0) dX1_findAll_48 LV_Basket_41 (m_Rows_bound (xrB hx) (p := c) him) rfl rfl (fxo_119 hx) rfl (Nat.le_of_ble_eq_true rfl) (Nat.le_of_ble_eq_true rfl) (Nat.le_of_ble_eq_true rfl) (Nat.le_of_ble_eq_true rfl) ?_
          rintro _ _ ⟨rfl, rfl⟩
          refine x_iinc (v := (nI (c + 1))) dX1_findAll_51 rfl (nI_1 _) (Nat.le_of_ble_eq_true rfl) ?_
          try simp only [xst, xst2, xclr, xset, xwide]
          refine x_goto (tgt := 2) dX1_findAll_54 rfl ?_
          exact ih2 (c + 1) _ (by omega) (xFrs (xFrs (xFrs hF))) (fun j hj => by
            by_cases hji : j = c
            · subst hji; exact ⟨by rw [xo (by decide), xs], by rw [xs, ha2], by rw [xo (by decide), xo (by decide), xs]⟩
            · exact ⟨by rw [xo (by decide), xf hji, xo (by decide)]; exact (hb j (by omega)).1, by rw [xf hji, xo (by decide), xo (by decide)]; exact (hb j (by omega)).2.1, by rw [xo (by decide), xo (by decide), xf hji]; exact (hb j (by omega)).2.2⟩) (by omega)
        refine x_iload_n dX1_findAll_30 rfl ?_
        refine x_iconst (v := 0) dX1_findAll_31 (by decide) ?_
        refine x_aload_n dX1_findAll_32 rfl ?_
        refine y_getr dX1_findAll_33 F_Basket_27 (fxo_118 hx) rfl (fxp_118_0 hx) ?_
        refine x_iload_n dX1_findAll_36 rfl ?_
        refine x_callV (k2 := 0) (n2 := 0) dX1_findAll_37 LV_Basket_37 (m_Table_has tW3) rfl rfl (fxo_70 hx) rfl (Nat.le_of_ble_eq_true rfl) (Nat.le_of_ble_eq_true rfl) (Nat.le_of_ble_eq_true rfl) (Nat.le_of_ble_eq_true rfl) ?_
        rintro _ _ ⟨rfl, rfl⟩
        rw [hsN (by omega) (by omega)]
        refine x_if_eq (tgt := 47) dX1_findAll_40 rfl (fun c40 => ?_) (fun c40 => ?_)
        · refine x_iconst (v := 0) dX1_findAll_47 (by decide) ?_
          first
          | (have h9 := of_decide_eq_true (bv_1 c40); exact J48 _ (by unfold lnB; rw [k1, if_pos h9]; rfl))
          | (have h9 := of_decide_eq_false (bv_0 c40); exact J48 _ (by unfold lnB; rw [k1, if_neg h9]; rfl))
        · refine x_iconst (v := 4) dX1_findAll_43 (by decide) ?_
          refine x_goto (tgt := 48) dX1_findAll_44 rfl ?_
          first
          | (have h9 := of_decide_eq_true (bv_1 c40); exact J48 _ (by unfold lnB; rw [k1, if_pos h9]; rfl))
          | (have h9 := of_decide_eq_false (bv_0 c40); exact J48 _ (by unfold lnB; rw [k1, if_neg h9]; rfl))
  exact K2 _ 0 I (by decide) xFrm.rf (fun c h => absurd h (Nat.not_lt_zero c)) (Nat.lt_succ_self _)

set_option maxHeartbeats 4000000 in
set_option maxRecDepth 100000 in
theorem m_Basket_ofFirst {g : xG} {nx : Nat} {sh : Nat → Nat × Nat} {P : Nat → Nat → Option Nat} {I : Nat → Nat → Int32} (hx : xFx sh P) {c : Nat} (hc4 : c < 5) : xMet g Y_Basket_ofFirst 0 0 0 [.ref 118, .int (nI c)] (nx, sh, P, I) (fun r σ => r = some (.int (I 124 c)) ∧ σ = (nx, sh, P, I)) := by
  refine xMet.of [some (.ref 118), some (.int (nI c))] (by decide +kernel) (Nat.le_of_ble_eq_true rfl) rfl ?_
  refine x_iload_n dX1_ofFirst_0 rfl ?_
  refine x_if_lt (tgt := 22) dX1_ofFirst_1 rfl (fun c1 => ?_) (fun c1 => ?_)
  · exact absurd c1 (nI_pos (by omega))
  · refine x_iload_n dX1_ofFirst_4 rfl ?_
    refine x_aload_n dX1_ofFirst_5 rfl ?_
    refine y_getr dX1_ofFirst_6 F_Basket_24 (fxo_118 hx) rfl (fxp_118_3 hx) ?_
    refine y_alen dX1_ofFirst_9 (fxk_124 hx) (by decide) ?_
    refine x_icmp_ge (tgt := 22) dX1_ofFirst_10 rfl (fun c10 => ?_) (fun c10 => ?_)
    · exact absurd ((nI_leI (by decide) (by omega)).mp c10) (by omega)
    · refine x_aload_n dX1_ofFirst_13 rfl ?_
      refine y_getr dX1_ofFirst_14 F_Basket_24 (fxo_118 hx) rfl (fxp_118_3 hx) ?_
      refine x_iload_n dX1_ofFirst_17 rfl ?_
      refine y_iaload dX1_ofFirst_18 (fxk_124 hx) (vi rfl hc4 (by decide)) (rI (j := c) (ci rfl (by omega)) rfl) ?_
      refine x_goto (tgt := 23) dX1_ofFirst_19 rfl ?_
      refine x_ireturn dX1_ofFirst_23 rfl nb_int ?_
      exact ⟨rfl, rfl⟩

set_option maxHeartbeats 4000000 in
set_option maxRecDepth 100000 in
theorem m_C_bought {g : xG} {nx : Nat} {sh : Nat → Nat × Nat} {P : Nat → Nat → Option Nat} {I : Nat → Nat → Int32} (hx : xFx sh P) {s : Nat → Int32} (hW : xWN nx sh P I s) (hR : RI s) {sum k : Int32} : xMet g Y_C_bought 6 0 0 [.ref 64, .int sum, .int k] (nx, sh, P, I) (fun r σ => ∃ I1 : Nat → Nat → Int32, r = some (.int (a_bought s sum k)) ∧ σ = (nx, sh, P, I1) ∧ xFrm [120, 121, 122, 123, 124] I I1) := by
  refine xMet.of [some (.ref 64), some (.int sum), some (.int k), none] (by decide +kernel) (Nat.le_of_ble_eq_true rfl) rfl ?_
  obtain ⟨⟨tTape, tCoins, tWares, tBuys, tSlates, tPlans, tBooked⟩, ⟨cTape, cCoins, cWares, cBuys, cSlates, cPlans, cBooked⟩, hW7, hW9, hL⟩ := id hW
  obtain ⟨⟨n0, b0, e0⟩, ⟨n1, b1, e1⟩, ⟨n2, b2, e2⟩, ⟨n3, b3, e3⟩, ⟨n4, b4, e4⟩, ⟨n5, b5, e5⟩, ⟨n6, b6, e6⟩, ⟨n7, b7, e7⟩, ⟨n9, b9, e9⟩⟩ := hR.k
  have k7 : cN s 7 = n7 := cN_of e7 (by omega)
  rw [k7] at tTape cTape
  have k0 : cN s 0 = n0 := cN_of e0 (by omega)
  rw [k0] at tCoins cCoins
  have k1 : cN s 1 = n1 := cN_of e1 (by omega)
  rw [k1] at tWares cWares
  have k3 : cN s 3 = n3 := cN_of e3 (by omega)
  rw [k3] at tBuys cBuys
  have k4 : cN s 4 = n4 := cN_of e4 (by omega)
  rw [k4] at tSlates cSlates
  have k5 : cN s 5 = n5 := cN_of e5 (by omega)
  rw [k5] at tPlans cPlans
  have k6 : cN s 6 = n6 := cN_of e6 (by omega)
  rw [k6] at tBooked cBooked
  refine x_iload_n dX10_bought_0 rfl ?_
  refine x_iconst (v := (-1)) dX10_bought_1 (by decide) ?_
  refine x_iconst (v := 4) dX10_bought_2 (by decide) ?_
  refine x_callS (k2 := 0) (n2 := 0) dX10_bought_3 LS_C_71 m_C_isOutside rfl rfl (Nat.le_of_ble_eq_true rfl) (Nat.le_of_ble_eq_true rfl) (Nat.le_of_ble_eq_true rfl) (Nat.le_of_ble_eq_true rfl) ?_
  rintro _ _ ⟨rfl, rfl⟩
  refine x_if_eq (tgt := 11) dX10_bought_6 rfl (fun c6 => ?_) (fun c6 => ?_)
  · refine x_iload_n dX10_bought_11 rfl ?_
    refine x_iconst (v := 0) dX10_bought_12 (by decide) ?_
    refine x_bipush (v := 99) dX10_bought_13 (by decide) ?_
    refine x_callS (k2 := 0) (n2 := 0) dX10_bought_15 LS_C_71 m_C_isOutside rfl rfl (Nat.le_of_ble_eq_true rfl) (Nat.le_of_ble_eq_true rfl) (Nat.le_of_ble_eq_true rfl) (Nat.le_of_ble_eq_true rfl) ?_
    rintro _ _ ⟨rfl, rfl⟩
    refine x_if_eq (tgt := 24) dX10_bought_18 rfl (fun c18 => ?_) (fun c18 => ?_)
    · obtain ⟨l, hl, rfl⟩ : ∃ l, l ≤ 99 ∧ sum = nI l := by
        obtain ⟨z, hz, ez⟩ := i_2 (n := 100) (by decide) ⟨(o_t c18).1, Int32.lt_of_le_of_lt (o_t c18).2 (by decide)⟩
        exact ⟨z, by omega, ez⟩
      refine x_aload_n dX10_bought_24 rfl ?_
      refine y_getr dX10_bought_25 F_C_60 (fxo_64 hx) rfl (fxp_64_6 hx) ?_
      refine x_iload_n dX10_bought_28 rfl ?_
      refine x_callV (k2 := 0) (n2 := 0) dX10_bought_29 LV_C_203 (m_Basket_findAll (I := I) hx hW hR hl) rfl rfl (fxo_118 hx) rfl (Nat.le_of_ble_eq_true rfl) (Nat.le_of_ble_eq_true rfl) (Nat.le_of_ble_eq_true rfl) (Nat.le_of_ble_eq_true rfl) ?_
      rintro _ _ ⟨I2, rfl, rfl, hF2, hb2⟩
      have hW2 := hW.fl (hF2.mono (l := [80, 120, 121, 122, 123, 124]))
      obtain ⟨g1, ⟨z, hz, ez⟩, g3⟩ := bag_br hR hl (b0 := I 124)
      rw [← hb2] at g3
      rw [g1, ez]
      obtain ⟨⟨-, -, tW2, -⟩, -⟩ := id hW2
      rw [k1] at tW2
      refine x_istore_n dX10_bought_32 (Nat.le_of_ble_eq_true rfl) ?_
      try simp only [xst, xst2, xclr, xset, xwide]
      refine x_iload_n dX10_bought_33 rfl ?_
      refine x_iconst (v := (-1)) dX10_bought_34 (by decide) ?_
      refine x_icmp_ne (tgt := 40) dX10_bought_35 rfl (fun c35 => ?_) (fun c35 => ?_)
      · refine x_iload_n dX10_bought_40 rfl ?_
        refine x_if_le (tgt := 69) dX10_bought_41 rfl (fun c41 => ?_) (fun c41 => ?_)
        · have hz0 : (bgA s (nI l)).1 = 0 := by rw [ez, show z = 0 from by have h9 := (nI_leI (b := 0) (by omega) (by decide)).mp c41; omega]; rfl
          refine x_bipush (v := (-5)) dX10_bought_69 (by decide) ?_
          refine x_ireturn dX10_bought_71 rfl nb_int ?_
          exact ⟨I2, by unfold a_bought; rw [if_pos (o_t c6), if_pos (o_t c18), if_neg c35, if_pos (Or.inl hz0)], rfl, hF2⟩
        · have hz1 : ¬ (bgA s (nI l)).1 = 0 := by rw [ez]; exact fun y => c41 (by rw [y]; decide)
          refine x_aload_n dX10_bought_44 rfl ?_
          refine y_getr dX10_bought_45 F_C_12 (fxo_64 hx) rfl (fxp_64_0 hx) ?_
          refine y_getr dX10_bought_48 F_C_56 (fxo_65 hx) rfl (fxp_65_2 hx) ?_
          refine x_iload_n dX10_bought_51 rfl ?_
          refine x_callV (k2 := 0) (n2 := 0) dX10_bought_52 LV_C_113 (m_Table_has tW2) rfl rfl (fxo_70 hx) rfl (Nat.le_of_ble_eq_true rfl) (Nat.le_of_ble_eq_true rfl) (Nat.le_of_ble_eq_true rfl) (Nat.le_of_ble_eq_true rfl) ?_
          rintro _ _ ⟨rfl, rfl⟩
          refine x_if_eq (tgt := 69) dX10_bought_55 rfl (fun c55 => ?_) (fun c55 => ?_)
          · have hle : s 1 ≤ k := by
              have h0 : 0 ≤ k := by
                have h1 := Int32.le_iff_toInt_le.mp (o_t c6).1
                have h2 : ¬ k.toInt = -1 := fun y => c35 (Int32.toInt_inj.mp y)
                refine Int32.le_iff_toInt_le.mpr ?_
                have e1 : (-1 : Int32).toInt = -1 := rfl
                show (0 : Int) ≤ _
                omega
              rw [e1]; exact Int32.not_lt.mp (fun y => b_f c55 ⟨h0, y⟩)
            refine x_bipush (v := (-5)) dX10_bought_69 (by decide) ?_
            refine x_ireturn dX10_bought_71 rfl nb_int ?_
            exact ⟨I2, by unfold a_bought; rw [if_pos (o_t c6), if_pos (o_t c18), if_neg c35, if_pos (Or.inr hle)], rfl, hF2⟩
          · obtain ⟨q, hq, rfl⟩ := i_2 (n := n1) (by omega) (b_t c55)
            refine x_aload_n dX10_bought_58 rfl ?_
            refine y_getr dX10_bought_59 F_C_60 (fxo_64 hx) rfl (fxp_64_6 hx) ?_
            refine x_iload_n dX10_bought_62 rfl ?_
            refine x_callV (k2 := 0) (n2 := 0) dX10_bought_63 LV_C_206 (m_Basket_ofFirst (I := I2) hx (c := q) (by omega)) rfl rfl (fxo_118 hx) rfl (Nat.le_of_ble_eq_true rfl) (Nat.le_of_ble_eq_true rfl) (Nat.le_of_ble_eq_true rfl) (Nat.le_of_ble_eq_true rfl) ?_
            rintro _ _ ⟨rfl, rfl⟩
            skip
            refine x_goto (tgt := 71) dX10_bought_66 rfl ?_
            refine x_ireturn dX10_bought_71 rfl nb_int ?_
            exact ⟨I2, by unfold a_bought; rw [if_pos (o_t c6), if_pos (o_t c18), if_neg c35, if_neg (fun y => y.elim hz1 (fun y2 => Int32.not_lt.mpr y2 (by rw [e1]; exact (nI_ltI (by omega) (by omega)).mpr hq))), nI_clamp (by omega), g3 hz1 q (by omega)], rfl, hF2⟩
      · refine x_iload_n dX10_bought_38 rfl ?_
        refine x_ireturn dX10_bought_39 rfl nb_int ?_
        exact ⟨I2, by unfold a_bought; rw [if_pos (o_t c6), if_pos (o_t c18), if_pos c35, ez], rfl, hF2⟩
    · refine x_bipush (v := (-2)) dX10_bought_21 (by decide) ?_
      refine x_ireturn dX10_bought_23 rfl nb_int ?_
      exact ⟨I, by unfold a_bought; rw [if_pos (o_t c6), if_neg (o_f c18)], rfl, xFrm.rf⟩
  · refine x_iconst (v := (-1)) dX10_bought_9 (by decide) ?_
    refine x_ireturn dX10_bought_10 rfl nb_int ?_
    exact ⟨I, by unfold a_bought; rw [if_neg (o_f c6)], rfl, xFrm.rf⟩
