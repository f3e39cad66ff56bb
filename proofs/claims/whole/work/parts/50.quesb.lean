/-! the class: rate, odds, lasting, looked -/
theorem fr_z {u l : Nat} {part : Int32} (hu : u < 2 ^ 31) (hl : l < 2 ^ 31) : (if l = 0 then (-9223372036854775808 : Int64) else frL u l part) = if nI l = 0 then -9223372036854775808 else frI (nI u) (nI l) part := by
  rw [frI_n hu hl]
  by_cases h : l = 0
  · rw [if_pos h, if_pos (by rw [h]; rfl)]
  · rw [if_neg h, if_neg (show ¬ nI l = 0 from fun z => h ((nI_eqI (b := 0) hl (by decide)).mp z))]
set_option maxHeartbeats 4000000 in
set_option maxRecDepth 100000 in
theorem m_C_coinsInPurse {g : xG} {nx : Nat} {sh : Nat → Nat × Nat} {P : Nat → Nat → Option Nat} {I : Nat → Nat → Int32} (hx : xFx sh P) {s : Nat → Int32} (hW : xWN nx sh P I s) (hR : RI s)  : xMet g Y_C_coinsInPurse 2 0 0 [.ref 64] (nx, sh, P, I) (fun r σ => r = some (.int (puS s (cN s 0))) ∧ σ = (nx, sh, P, I)) := by
  refine xMet.of [some (.ref 64), none, none] (by decide +kernel) (Nat.le_of_ble_eq_true rfl) rfl ?_
  obtain ⟨⟨tTape, tCoins, tWares, tBuys, tSlates, tPlans, tBooked⟩, ⟨cTape, cCoins, cWares, cBuys, cSlates, cPlans, cBooked⟩, hW7, hW9, hL⟩ := id hW
  obtain ⟨⟨n0, b0, e0⟩, ⟨n1, b1, e1⟩, ⟨n2, b2, e2⟩, ⟨n3, b3, e3⟩, ⟨n4, b4, e4⟩, ⟨n5, b5, e5⟩, ⟨n6, b6, e6⟩, ⟨n7, b7, e7⟩, ⟨n9, b9, e9⟩⟩ := hR.k
  have k7 : cN s 7 = n7 := cN_of e7 (by omega)
  rw [k7] at tTape cTape
  have k0 : cN s 0 = n0 := cN_of e0 (by omega)
  rw [k0] at tCoins cCoins
  have k1 : cN s 1 = n1 := cN_of e1 (by omega)
  rw [k1] at tWares cWares
  have k3 : cN s 3 = n3 := cN_of e3 (by omega)
  rw [k3] at tBuys cBuys
  have k4 : cN s 4 = n4 := cN_of e4 (by omega)
  rw [k4] at tSlates cSlates
  have k5 : cN s 5 = n5 := cN_of e5 (by omega)
  rw [k5] at tPlans cPlans
  have k6 : cN s 6 = n6 := cN_of e6 (by omega)
  rw [k6] at tBooked cBooked
  refine x_iconst (v := 0) dX10_coinsInPurse_0 (by decide) ?_
  refine x_istore_n dX10_coinsInPurse_1 (Nat.le_of_ble_eq_true rfl) ?_
  try simp only [xst, xst2, xclr, xset, xwide]
  refine x_iconst (v := 0) dX10_coinsInPurse_2 (by decide) ?_
  refine x_istore_n dX10_coinsInPurse_3 (Nat.le_of_ble_eq_true rfl) ?_
  try simp only [xst, xst2, xclr, xset, xwide]
  have K4 : ∀ (fuel : Nat) (i : Nat) (acc : Int32) (hi : i ≤ n0) (ha : acc = puS s i), n0 - i < fuel → xX g Y_C_coinsInPurse 2 0 0 (fun r σ => r = some (.int (puS s (cN s 0))) ∧ σ = (nx, sh, P, I)) 4 [some (.ref 64), some (.int acc), some (.int (nI i))] [] (nx, sh, P, I) := by
    intro fuel
    induction fuel with
    | zero => intro i acc hi ha hm; exact absurd hm (Nat.not_lt_zero _)
    | succ fuel ih4 =>
      intro i acc hi ha hm
      refine x_iload_n dX10_coinsInPurse_4 rfl ?_
      refine x_aload_n dX10_coinsInPurse_5 rfl ?_
      refine y_getr dX10_coinsInPurse_6 F_C_12 (fxo_64 hx) rfl (fxp_64_0 hx) ?_
      refine y_getr dX10_coinsInPurse_9 F_C_110 (fxo_65 hx) rfl (fxp_65_1 hx) ?_
      refine x_callV (k2 := 0) (n2 := 0) dX10_coinsInPurse_12 LV_C_89 (m_Table_rows tCoins) rfl rfl (fxo_68 hx) rfl (Nat.le_of_ble_eq_true rfl) (Nat.le_of_ble_eq_true rfl) (Nat.le_of_ble_eq_true rfl) (Nat.le_of_ble_eq_true rfl) ?_
      rintro _ _ ⟨rfl, rfl⟩
      refine x_icmp_ge (tgt := 39) dX10_coinsInPurse_15 rfl (fun c15 => ?_) (fun c15 => ?_)
      · have hie : i = n0 := cge_t (by omega) hi c15
        refine x_iload_n dX10_coinsInPurse_39 rfl ?_
        refine x_ireturn dX10_coinsInPurse_40 rfl nb_int ?_
        exact ⟨by rw [ha, hie, k0], rfl⟩
      · have him : i < n0 := cge_f (by omega) hi c15
        refine x_iload_n dX10_coinsInPurse_18 rfl ?_
        refine x_aload_n dX10_coinsInPurse_19 rfl ?_
        refine y_getr dX10_coinsInPurse_20 F_C_12 (fxo_64 hx) rfl (fxp_64_0 hx) ?_
        refine y_getr dX10_coinsInPurse_23 F_C_110 (fxo_65 hx) rfl (fxp_65_1 hx) ?_
        refine x_iload_n dX10_coinsInPurse_26 rfl ?_
        refine x_iconst (v := 3) dX10_coinsInPurse_27 (by decide) ?_
        refine x_callV (k2 := 0) (n2 := 0) dX10_coinsInPurse_28 LV_C_125 (m_Table_get tCoins (x := nI i) (z := nI 3)) rfl rfl (fxo_68 hx) rfl (Nat.le_of_ble_eq_true rfl) (Nat.le_of_ble_eq_true rfl) (Nat.le_of_ble_eq_true rfl) (Nat.le_of_ble_eq_true rfl) ?_
        rintro _ _ ⟨rfl, rfl⟩
        rw [xTg_in (r := i) (k := 3) (by omega) (by omega) (by omega) (by omega), (cCoins i him).2.2.2.1]
        refine x_iadd dX10_coinsInPurse_31 ?_
        refine x_istore_n dX10_coinsInPurse_32 (Nat.le_of_ble_eq_true rfl) ?_
        try simp only [xst, xst2, xclr, xset, xwide]
        refine x_iinc (v := (nI (i + 1))) dX10_coinsInPurse_33 rfl (nI_1 _) (Nat.le_of_ble_eq_true rfl) ?_
        try simp only [xst, xst2, xclr, xset, xwide]
        refine x_goto (tgt := 4) dX10_coinsInPurse_36 rfl ?_
        exact ih4 (i + 1) _ (by omega) (by rw [ha]; rfl) (by omega)
  exact K4 _ 0 0 (Nat.zero_le _) rfl (Nat.lt_succ_self _)

set_option maxHeartbeats 4000000 in
set_option maxRecDepth 100000 in
theorem m_C_rate {g : xG} {nx : Nat} {sh : Nat → Nat × Nat} {P : Nat → Nat → Option Nat} {I : Nat → Nat → Int32} (hx : xFx sh P) {s : Nat → Int32} (hW : xWN nx sh P I s) (hR : RI s) {a b part : Int32} : xMet g Y_C_rate 6 0 0 [.ref 64, .int a, .int b, .int part] (nx, sh, P, I) (fun r σ => ∃ I1 : Nat → Nat → Int32, r = some (.long (a_rate s a b part)) ∧ σ = (nx, sh, P, I1) ∧ xFrm [80] I I1) := by
  refine xMet.of [some (.ref 64), some (.int a), some (.int b), some (.int part)] (by decide +kernel) (Nat.le_of_ble_eq_true rfl) rfl ?_
  obtain ⟨⟨tTape, tCoins, tWares, tBuys, tSlates, tPlans, tBooked⟩, ⟨cTape, cCoins, cWares, cBuys, cSlates, cPlans, cBooked⟩, hW7, hW9, hL⟩ := id hW
  obtain ⟨⟨n0, b0, e0⟩, ⟨n1, b1, e1⟩, ⟨n2, b2, e2⟩, ⟨n3, b3, e3⟩, ⟨n4, b4, e4⟩, ⟨n5, b5, e5⟩, ⟨n6, b6, e6⟩, ⟨n7, b7, e7⟩, ⟨n9, b9, e9⟩⟩ := hR.k
  have k7 : cN s 7 = n7 := cN_of e7 (by omega)
  rw [k7] at tTape cTape
  have k0 : cN s 0 = n0 := cN_of e0 (by omega)
  rw [k0] at tCoins cCoins
  have k1 : cN s 1 = n1 := cN_of e1 (by omega)
  rw [k1] at tWares cWares
  have k3 : cN s 3 = n3 := cN_of e3 (by omega)
  rw [k3] at tBuys cBuys
  have k4 : cN s 4 = n4 := cN_of e4 (by omega)
  rw [k4] at tSlates cSlates
  have k5 : cN s 5 = n5 := cN_of e5 (by omega)
  rw [k5] at tPlans cPlans
  have k6 : cN s 6 = n6 := cN_of e6 (by omega)
  rw [k6] at tBooked cBooked
  refine x_aload_n dX10_rate_0 rfl ?_
  refine y_getr dX10_rate_1 F_C_12 (fxo_64 hx) rfl (fxp_64_0 hx) ?_
  refine y_getr dX10_rate_4 F_C_110 (fxo_65 hx) rfl (fxp_65_1 hx) ?_
  refine x_iload_n dX10_rate_7 rfl ?_
  refine x_callV (k2 := 0) (n2 := 0) dX10_rate_8 LV_C_113 (m_Table_has tCoins) rfl rfl (fxo_68 hx) rfl (Nat.le_of_ble_eq_true rfl) (Nat.le_of_ble_eq_true rfl) (Nat.le_of_ble_eq_true rfl) (Nat.le_of_ble_eq_true rfl) ?_
  rintro _ _ ⟨rfl, rfl⟩
  refine x_if_eq (tgt := 37) dX10_rate_11 rfl (fun c11 => ?_) (fun c11 => ?_)
  · refine x_ldc2 dX10_rate_37 K_C_162 ?_
    refine x_lreturn dX10_rate_40 rfl ?_
    have hno : ¬ ((0 ≤ a ∧ a < s 0) ∧ (0 ≤ b ∧ b < s 0) ∧ 0 ≤ part ∧ part ≤ 1) := by
      rw [e0]
      first
      | (have h9 := b_f c11; exact fun y => h9 y.1)
      | (have h9 := b_f c25; exact fun y => h9 y.2.1)
      | (have h9 := o_f c34; exact fun y => h9 y.2.2)
    exact ⟨I, by unfold a_rate; rw [if_neg hno], rfl, xFrm.rf⟩
  · refine x_aload_n dX10_rate_14 rfl ?_
    refine y_getr dX10_rate_15 F_C_12 (fxo_64 hx) rfl (fxp_64_0 hx) ?_
    refine y_getr dX10_rate_18 F_C_110 (fxo_65 hx) rfl (fxp_65_1 hx) ?_
    refine x_iload_n dX10_rate_21 rfl ?_
    refine x_callV (k2 := 0) (n2 := 0) dX10_rate_22 LV_C_113 (m_Table_has tCoins) rfl rfl (fxo_68 hx) rfl (Nat.le_of_ble_eq_true rfl) (Nat.le_of_ble_eq_true rfl) (Nat.le_of_ble_eq_true rfl) (Nat.le_of_ble_eq_true rfl) ?_
    rintro _ _ ⟨rfl, rfl⟩
    refine x_if_eq (tgt := 37) dX10_rate_25 rfl (fun c25 => ?_) (fun c25 => ?_)
    · refine x_ldc2 dX10_rate_37 K_C_162 ?_
      refine x_lreturn dX10_rate_40 rfl ?_
      have hno : ¬ ((0 ≤ a ∧ a < s 0) ∧ (0 ≤ b ∧ b < s 0) ∧ 0 ≤ part ∧ part ≤ 1) := by
        rw [e0]
        first
        | (have h9 := b_f c11; exact fun y => h9 y.1)
        | (have h9 := b_f c25; exact fun y => h9 y.2.1)
        | (have h9 := o_f c34; exact fun y => h9 y.2.2)
      exact ⟨I, by unfold a_rate; rw [if_neg hno], rfl, xFrm.rf⟩
    · refine x_iload_n dX10_rate_28 rfl ?_
      refine x_iconst (v := 0) dX10_rate_29 (by decide) ?_
      refine x_iconst (v := 1) dX10_rate_30 (by decide) ?_
      refine x_callS (k2 := 0) (n2 := 0) dX10_rate_31 LS_C_71 m_C_isOutside rfl rfl (Nat.le_of_ble_eq_true rfl) (Nat.le_of_ble_eq_true rfl) (Nat.le_of_ble_eq_true rfl) (Nat.le_of_ble_eq_true rfl) ?_
      rintro _ _ ⟨rfl, rfl⟩
      refine x_if_eq (tgt := 41) dX10_rate_34 rfl (fun c34 => ?_) (fun c34 => ?_)
      · obtain ⟨q, hq, rfl⟩ := i_2 (n := n0) (by omega) (b_t c11)
        have hqc : q < cN s 0 := by rw [k0]; exact hq
        obtain ⟨p, hp, rfl⟩ := i_2 (n := n0) (by omega) (b_t c25)
        have hpc : p < cN s 0 := by rw [k0]; exact hp
        obtain ⟨u, hu1, hu2, hu⟩ := wc_bd hR hqc
        obtain ⟨l, hl1, hl2, hl⟩ := wc_bd hR hpc
        refine x_aload_n dX10_rate_41 rfl ?_
        refine y_getr dX10_rate_42 F_C_12 (fxo_64 hx) rfl (fxp_64_0 hx) ?_
        refine x_iload_n dX10_rate_45 rfl ?_
        refine x_callV (k2 := 0) (n2 := 0) dX10_rate_46 LV_C_117 (m_World_worth hx hW hR hqc) rfl rfl (fxo_65 hx) rfl (Nat.le_of_ble_eq_true rfl) (Nat.le_of_ble_eq_true rfl) (Nat.le_of_ble_eq_true rfl) (Nat.le_of_ble_eq_true rfl) ?_
        rintro _ _ ⟨F, rfl, rfl⟩
        rw [hu]
        refine x_aload_n dX10_rate_49 rfl ?_
        refine y_getr dX10_rate_50 F_C_12 (fxo_64 hx) rfl (fxp_64_0 hx) ?_
        refine x_iload_n dX10_rate_53 rfl ?_
        refine x_callV (k2 := 0) (n2 := 0) dX10_rate_54 LV_C_117 (m_World_worth (I := va_up I 80 F) hx hW.va hR hpc) rfl rfl (fxo_65 hx) rfl (Nat.le_of_ble_eq_true rfl) (Nat.le_of_ble_eq_true rfl) (Nat.le_of_ble_eq_true rfl) (Nat.le_of_ble_eq_true rfl) ?_
        rintro _ _ ⟨F2, rfl, rfl⟩
        rw [hl]
        refine x_iload_n dX10_rate_57 rfl ?_
        refine x_callS (k2 := 0) (n2 := 0) dX10_rate_58 LS_C_167 (m_C_fraction (u := u) (l := l) (by omega) (by omega)) rfl rfl (Nat.le_of_ble_eq_true rfl) (Nat.le_of_ble_eq_true rfl) (Nat.le_of_ble_eq_true rfl) (Nat.le_of_ble_eq_true rfl) ?_
        rintro _ _ ⟨rfl, rfl⟩
        rw [fr_z (by omega) (by omega), if_neg (nI_ne0 (by omega) (by omega)), ← hu, ← hl]
        refine x_lreturn dX10_rate_61 rfl ?_
        exact ⟨_, by unfold a_rate; rw [e0, if_pos ⟨b_t c11, b_t c25, o_t c34⟩, nI_clamp (by omega), nI_clamp (by omega)], rfl, xFrv (xFrv xFrm.rf)⟩
      · refine x_ldc2 dX10_rate_37 K_C_162 ?_
        refine x_lreturn dX10_rate_40 rfl ?_
        have hno : ¬ ((0 ≤ a ∧ a < s 0) ∧ (0 ≤ b ∧ b < s 0) ∧ 0 ≤ part ∧ part ≤ 1) := by
          rw [e0]
          first
          | (have h9 := b_f c11; exact fun y => h9 y.1)
          | (have h9 := b_f c25; exact fun y => h9 y.2.1)
          | (have h9 := o_f c34; exact fun y => h9 y.2.2)
        exact ⟨I, by unfold a_rate; rw [if_neg hno], rfl, xFrm.rf⟩

set_option maxHeartbeats 4000000 in
set_option maxRecDepth 100000 in
theorem m_C_odds {g : xG} {nx : Nat} {sh : Nat → Nat × Nat} {P : Nat → Nat → Option Nat} {I : Nat → Nat → Int32} (hx : xFx sh P) {s : Nat → Int32} (hW : xWN nx sh P I s) (hR : RI s) {q part : Int32} : xMet g Y_C_odds 6 0 0 [.ref 64, .int q, .int part] (nx, sh, P, I) (fun r σ => ∃ I1 : Nat → Nat → Int32, r = some (.long (a_odds s q part)) ∧ σ = (nx, sh, P, I1) ∧ xFrm [80] I I1) := by
  refine xMet.of [some (.ref 64), some (.int q), some (.int part), none, none] (by decide +kernel) (Nat.le_of_ble_eq_true rfl) rfl ?_
  obtain ⟨⟨tTape, tCoins, tWares, tBuys, tSlates, tPlans, tBooked⟩, ⟨cTape, cCoins, cWares, cBuys, cSlates, cPlans, cBooked⟩, hW7, hW9, hL⟩ := id hW
  obtain ⟨⟨n0, b0, e0⟩, ⟨n1, b1, e1⟩, ⟨n2, b2, e2⟩, ⟨n3, b3, e3⟩, ⟨n4, b4, e4⟩, ⟨n5, b5, e5⟩, ⟨n6, b6, e6⟩, ⟨n7, b7, e7⟩, ⟨n9, b9, e9⟩⟩ := hR.k
  have k7 : cN s 7 = n7 := cN_of e7 (by omega)
  rw [k7] at tTape cTape
  have k0 : cN s 0 = n0 := cN_of e0 (by omega)
  rw [k0] at tCoins cCoins
  have k1 : cN s 1 = n1 := cN_of e1 (by omega)
  rw [k1] at tWares cWares
  have k3 : cN s 3 = n3 := cN_of e3 (by omega)
  rw [k3] at tBuys cBuys
  have k4 : cN s 4 = n4 := cN_of e4 (by omega)
  rw [k4] at tSlates cSlates
  have k5 : cN s 5 = n5 := cN_of e5 (by omega)
  rw [k5] at tPlans cPlans
  have k6 : cN s 6 = n6 := cN_of e6 (by omega)
  rw [k6] at tBooked cBooked
  refine x_iload_n dX10_odds_0 rfl ?_
  refine x_iconst (v := 1) dX10_odds_1 (by decide) ?_
  refine x_bipush (v := 30) dX10_odds_2 (by decide) ?_
  refine x_callS (k2 := 0) (n2 := 0) dX10_odds_4 LS_C_71 m_C_isOutside rfl rfl (Nat.le_of_ble_eq_true rfl) (Nat.le_of_ble_eq_true rfl) (Nat.le_of_ble_eq_true rfl) (Nat.le_of_ble_eq_true rfl) ?_
  rintro _ _ ⟨rfl, rfl⟩
  refine x_if_ne (tgt := 19) dX10_odds_7 rfl (fun c7 => ?_) (fun c7 => ?_)
  · refine x_ldc2 dX10_odds_19 K_C_162 ?_
    refine x_lreturn dX10_odds_22 rfl ?_
    have hno : ¬ ((1 ≤ q ∧ q ≤ 30) ∧ (0 ≤ part ∧ part ≤ 1) ∧ ¬ puS s (cN s 0) = 0) := by
      first
      | (have h9 := o_f c7; exact fun y => h9 y.1)
      | (have h9 := o_f c16; exact fun y => h9 y.2.1)
    exact ⟨I, by unfold a_odds; rw [if_neg hno], rfl, xFrm.rf⟩
  · refine x_iload_n dX10_odds_10 rfl ?_
    refine x_iconst (v := 0) dX10_odds_11 (by decide) ?_
    refine x_iconst (v := 1) dX10_odds_12 (by decide) ?_
    refine x_callS (k2 := 0) (n2 := 0) dX10_odds_13 LS_C_71 m_C_isOutside rfl rfl (Nat.le_of_ble_eq_true rfl) (Nat.le_of_ble_eq_true rfl) (Nat.le_of_ble_eq_true rfl) (Nat.le_of_ble_eq_true rfl) ?_
    rintro _ _ ⟨rfl, rfl⟩
    refine x_if_eq (tgt := 23) dX10_odds_16 rfl (fun c16 => ?_) (fun c16 => ?_)
    · refine x_iconst (v := 0) dX10_odds_23 (by decide) ?_
      refine x_istore_n dX10_odds_24 (Nat.le_of_ble_eq_true rfl) ?_
      try simp only [xst, xst2, xclr, xset, xwide]
      refine x_iconst (v := 0) dX10_odds_25 (by decide) ?_
      refine x_istore dX10_odds_26 (Nat.le_of_ble_eq_true rfl) ?_
      try simp only [xst, xst2, xclr, xset, xwide]
      have K28 : ∀ (fuel : Nat) (i : Nat) (I2 : Nat → Nat → Int32) (hi : i ≤ n0) (hF : xFrm [80] I I2), n0 - i < fuel → xX g Y_C_odds 6 0 0 (fun r σ => ∃ I1 : Nat → Nat → Int32, r = some (.long (a_odds s q part)) ∧ σ = (nx, sh, P, I1) ∧ xFrm [80] I I1) 28 [some (.ref 64), some (.int q), some (.int part), some (.int (opS s q i)), some (.int (nI i))] [] (nx, sh, P, I2) := by
        intro fuel
        induction fuel with
        | zero => intro i I2 hi hF hm; exact absurd hm (Nat.not_lt_zero _)
        | succ fuel ih28 =>
          intro i I2 hi hF hm
          have hW2 := hW.fl hF
          have tC2 : xTb sh P I2 68 69 8 4 n0 := tCoins.other (hF 68 (by decide))
          have e69 : I2 69 = I 69 := hF 69 (by decide)
          refine x_iload dX10_odds_28 rfl ?_
          refine x_aload_n dX10_odds_30 rfl ?_
          refine y_getr dX10_odds_31 F_C_12 (fxo_64 hx) rfl (fxp_64_0 hx) ?_
          refine y_getr dX10_odds_34 F_C_110 (fxo_65 hx) rfl (fxp_65_1 hx) ?_
          refine x_callV (k2 := 0) (n2 := 0) dX10_odds_37 LV_C_89 (m_Table_rows tC2) rfl rfl (fxo_68 hx) rfl (Nat.le_of_ble_eq_true rfl) (Nat.le_of_ble_eq_true rfl) (Nat.le_of_ble_eq_true rfl) (Nat.le_of_ble_eq_true rfl) ?_
          rintro _ _ ⟨rfl, rfl⟩
          refine x_icmp_ge (tgt := 78) dX10_odds_40 rfl (fun c40 => ?_) (fun c40 => ?_)
          · have hie : i = n0 := cge_t (by omega) hi c40
            refine x_iload_n dX10_odds_78 rfl ?_
            refine x_aload_n dX10_odds_79 rfl ?_
            refine x_callV (k2 := 0) (n2 := 0) dX10_odds_80 LV_C_215 (m_C_coinsInPurse (I := I2) hx hW2 hR) rfl rfl (fxo_64 hx) rfl (Nat.le_of_ble_eq_true rfl) (Nat.le_of_ble_eq_true rfl) (Nat.le_of_ble_eq_true rfl) (Nat.le_of_ble_eq_true rfl) ?_
            rintro _ _ ⟨rfl, rfl⟩
            obtain ⟨u, hu1, hu⟩ := opS_bd (q := q) hR n0 (by omega)
            obtain ⟨l, hl1, hl⟩ := puS_bd hR n0 (by omega)
            rw [k0, hie, hu, hl]
            refine x_iload_n dX10_odds_83 rfl ?_
            refine x_callS (k2 := 0) (n2 := 0) dX10_odds_84 LS_C_167 (m_C_fraction (u := u) (l := l) (by omega) (by omega)) rfl rfl (Nat.le_of_ble_eq_true rfl) (Nat.le_of_ble_eq_true rfl) (Nat.le_of_ble_eq_true rfl) (Nat.le_of_ble_eq_true rfl) ?_
            rintro _ _ ⟨rfl, rfl⟩
            rw [fr_z (by omega) (by omega), ← hu, ← hl]
            refine x_lreturn dX10_odds_87 rfl ?_
            refine ⟨I2, ?_, rfl, hF⟩
            unfold a_odds
            rw [k0]
            by_cases hz : puS s n0 = 0
            · rw [if_pos hz, if_neg (fun y => y.2.2 hz)]
            · rw [if_neg hz, if_pos ⟨o_t c7, o_t c16, hz⟩]
          · have him : i < n0 := cge_f (by omega) hi c40
            refine x_aload_n dX10_odds_43 rfl ?_
            refine y_getr dX10_odds_44 F_C_12 (fxo_64 hx) rfl (fxp_64_0 hx) ?_
            refine x_iload dX10_odds_47 rfl ?_
            refine x_callV (k2 := 0) (n2 := 0) dX10_odds_49 LV_C_117 (m_World_worth (I := I2) hx hW2 hR (c := i) (by rw [k0]; exact him)) rfl rfl (fxo_65 hx) rfl (Nat.le_of_ble_eq_true rfl) (Nat.le_of_ble_eq_true rfl) (Nat.le_of_ble_eq_true rfl) (Nat.le_of_ble_eq_true rfl) ?_
            rintro _ _ ⟨F, rfl, rfl⟩
            refine x_iload_n dX10_odds_52 rfl ?_
            refine x_icmp_lt (tgt := 72) dX10_odds_53 rfl (fun c53 => ?_) (fun c53 => ?_)
            · refine x_iinc (v := (nI (i + 1))) dX10_odds_72 rfl (nI_1 _) (Nat.le_of_ble_eq_true rfl) ?_
              try simp only [xst, xst2, xclr, xset, xwide]
              refine x_goto (tgt := 28) dX10_odds_75 rfl ?_
              first
              | (have h9 := Int32.not_lt.mp c53; rw [show opS s q i + s (22 + i) = opS s q (i + 1) from by show _ = opS s q i + (if q ≤ wc s i then s (22 + i) else 0); rw [if_pos h9]]; exact ih28 (i + 1) _ (by omega) (xFrv hF) (by omega))
              | (have h9 := Int32.not_le.mpr c53; rw [show opS s q i = opS s q (i + 1) from by show _ = opS s q i + (if q ≤ wc s i then s (22 + i) else 0); rw [if_neg h9, Int32.add_zero]]; exact ih28 (i + 1) _ (by omega) (xFrv hF) (by omega))
            · refine x_iload_n dX10_odds_56 rfl ?_
              refine x_aload_n dX10_odds_57 rfl ?_
              refine y_getr dX10_odds_58 F_C_12 (fxo_64 hx) rfl (fxp_64_0 hx) ?_
              refine y_getr dX10_odds_61 F_C_110 (fxo_65 hx) rfl (fxp_65_1 hx) ?_
              refine x_iload dX10_odds_64 rfl ?_
              refine x_iconst (v := 3) dX10_odds_66 (by decide) ?_
              refine x_callV (k2 := 0) (n2 := 0) dX10_odds_67 LV_C_125 (m_Table_get (I := va_up I2 80 F) (tC2.other (va_up_no (by decide))) (x := nI i) (z := nI 3)) rfl rfl (fxo_68 hx) rfl (Nat.le_of_ble_eq_true rfl) (Nat.le_of_ble_eq_true rfl) (Nat.le_of_ble_eq_true rfl) (Nat.le_of_ble_eq_true rfl) ?_
              rintro _ _ ⟨rfl, rfl⟩
              rw [xTg_in (r := i) (k := 3) (by omega) (by omega) (by omega) (by omega), va_up_no (by decide), e69, (cCoins i him).2.2.2.1]
              refine x_iadd dX10_odds_70 ?_
              refine x_istore_n dX10_odds_71 (Nat.le_of_ble_eq_true rfl) ?_
              try simp only [xst, xst2, xclr, xset, xwide]
              refine x_iinc (v := (nI (i + 1))) dX10_odds_72 rfl (nI_1 _) (Nat.le_of_ble_eq_true rfl) ?_
              try simp only [xst, xst2, xclr, xset, xwide]
              refine x_goto (tgt := 28) dX10_odds_75 rfl ?_
              first
              | (have h9 := Int32.not_lt.mp c53; rw [show opS s q i + s (22 + i) = opS s q (i + 1) from by show _ = opS s q i + (if q ≤ wc s i then s (22 + i) else 0); rw [if_pos h9]]; exact ih28 (i + 1) _ (by omega) (xFrv hF) (by omega))
              | (have h9 := Int32.not_le.mpr c53; rw [show opS s q i = opS s q (i + 1) from by show _ = opS s q i + (if q ≤ wc s i then s (22 + i) else 0); rw [if_neg h9, Int32.add_zero]]; exact ih28 (i + 1) _ (by omega) (xFrv hF) (by omega))
      exact K28 _ 0 I (Nat.zero_le _) xFrm.rf (Nat.lt_succ_self _)
    · refine x_ldc2 dX10_odds_19 K_C_162 ?_
      refine x_lreturn dX10_odds_22 rfl ?_
      have hno : ¬ ((1 ≤ q ∧ q ≤ 30) ∧ (0 ≤ part ∧ part ≤ 1) ∧ ¬ puS s (cN s 0) = 0) := by
        first
        | (have h9 := o_f c7; exact fun y => h9 y.1)
        | (have h9 := o_f c16; exact fun y => h9 y.2.1)
      exact ⟨I, by unfold a_odds; rw [if_neg hno], rfl, xFrm.rf⟩

set_option maxHeartbeats 4000000 in
set_option maxRecDepth 100000 in
theorem m_C_lasting {g : xG} {nx : Nat} {sh : Nat → Nat × Nat} {P : Nat → Nat → Option Nat} {I : Nat → Nat → Int32} (hx : xFx sh P) {s : Nat → Int32} (hW : xWN nx sh P I s) (hR : RI s) {c : Int32} : xMet g Y_C_lasting 6 0 0 [.ref 64, .int c] (nx, sh, P, I) (fun r σ => ∃ I1 : Nat → Nat → Int32, r = some (.int (a_lasting s c)) ∧ σ = (nx, sh, P, I1) ∧ xFrm [80] I I1) := by
  refine xMet.of [some (.ref 64), some (.int c), none, none, none, none] (by decide +kernel) (Nat.le_of_ble_eq_true rfl) rfl ?_
  obtain ⟨⟨tTape, tCoins, tWares, tBuys, tSlates, tPlans, tBooked⟩, ⟨cTape, cCoins, cWares, cBuys, cSlates, cPlans, cBooked⟩, hW7, hW9, hL⟩ := id hW
  obtain ⟨⟨n0, b0, e0⟩, ⟨n1, b1, e1⟩, ⟨n2, b2, e2⟩, ⟨n3, b3, e3⟩, ⟨n4, b4, e4⟩, ⟨n5, b5, e5⟩, ⟨n6, b6, e6⟩, ⟨n7, b7, e7⟩, ⟨n9, b9, e9⟩⟩ := hR.k
  have k7 : cN s 7 = n7 := cN_of e7 (by omega)
  rw [k7] at tTape cTape
  have k0 : cN s 0 = n0 := cN_of e0 (by omega)
  rw [k0] at tCoins cCoins
  have k1 : cN s 1 = n1 := cN_of e1 (by omega)
  rw [k1] at tWares cWares
  have k3 : cN s 3 = n3 := cN_of e3 (by omega)
  rw [k3] at tBuys cBuys
  have k4 : cN s 4 = n4 := cN_of e4 (by omega)
  rw [k4] at tSlates cSlates
  have k5 : cN s 5 = n5 := cN_of e5 (by omega)
  rw [k5] at tPlans cPlans
  have k6 : cN s 6 = n6 := cN_of e6 (by omega)
  rw [k6] at tBooked cBooked
  refine x_aload_n dX10_lasting_0 rfl ?_
  refine y_getr dX10_lasting_1 F_C_12 (fxo_64 hx) rfl (fxp_64_0 hx) ?_
  refine y_getr dX10_lasting_4 F_C_110 (fxo_65 hx) rfl (fxp_65_1 hx) ?_
  refine x_iload_n dX10_lasting_7 rfl ?_
  refine x_callV (k2 := 0) (n2 := 0) dX10_lasting_8 LV_C_113 (m_Table_has tCoins) rfl rfl (fxo_68 hx) rfl (Nat.le_of_ble_eq_true rfl) (Nat.le_of_ble_eq_true rfl) (Nat.le_of_ble_eq_true rfl) (Nat.le_of_ble_eq_true rfl) ?_
  rintro _ _ ⟨rfl, rfl⟩
  refine x_if_ne (tgt := 16) dX10_lasting_11 rfl (fun c11 => ?_) (fun c11 => ?_)
  · obtain ⟨q, hq, rfl⟩ := i_2 (n := n0) (by omega) (b_t c11)
    have hqc : q < cN s 0 := by rw [k0]; exact hq
    obtain ⟨b, hb1, hb9, hb⟩ := (hR.2.2.2.1 q hqc).2.2.1
    obtain ⟨p, hp9, hp⟩ := pu_of hR hqc
    refine x_aload_n dX10_lasting_16 rfl ?_
    refine y_getr dX10_lasting_17 F_C_12 (fxo_64 hx) rfl (fxp_64_0 hx) ?_
    refine y_getr dX10_lasting_20 F_C_110 (fxo_65 hx) rfl (fxp_65_1 hx) ?_
    refine x_iload_n dX10_lasting_23 rfl ?_
    refine x_iconst (v := 2) dX10_lasting_24 (by decide) ?_
    refine x_callV (k2 := 0) (n2 := 0) dX10_lasting_25 LV_C_125 (m_Table_get tCoins (x := nI q) (z := nI 2)) rfl rfl (fxo_68 hx) rfl (Nat.le_of_ble_eq_true rfl) (Nat.le_of_ble_eq_true rfl) (Nat.le_of_ble_eq_true rfl) (Nat.le_of_ble_eq_true rfl) ?_
    rintro _ _ ⟨rfl, rfl⟩
    rw [xTg_in (r := q) (k := 2) (by omega) (by omega) (by omega) (by omega), (cCoins q hq).2.2.1]
    refine x_istore_n dX10_lasting_28 (Nat.le_of_ble_eq_true rfl) ?_
    try simp only [xst, xst2, xclr, xset, xwide]
    refine x_aload_n dX10_lasting_29 rfl ?_
    refine y_getr dX10_lasting_30 F_C_12 (fxo_64 hx) rfl (fxp_64_0 hx) ?_
    refine y_getr dX10_lasting_33 F_C_110 (fxo_65 hx) rfl (fxp_65_1 hx) ?_
    refine x_iload_n dX10_lasting_36 rfl ?_
    refine x_iconst (v := 3) dX10_lasting_37 (by decide) ?_
    refine x_callV (k2 := 0) (n2 := 0) dX10_lasting_38 LV_C_125 (m_Table_get tCoins (x := nI q) (z := nI 3)) rfl rfl (fxo_68 hx) rfl (Nat.le_of_ble_eq_true rfl) (Nat.le_of_ble_eq_true rfl) (Nat.le_of_ble_eq_true rfl) (Nat.le_of_ble_eq_true rfl) ?_
    rintro _ _ ⟨rfl, rfl⟩
    rw [xTg_in (r := q) (k := 3) (by omega) (by omega) (by omega) (by omega), (cCoins q hq).2.2.2.1]
    refine x_istore_n dX10_lasting_41 (Nat.le_of_ble_eq_true rfl) ?_
    try simp only [xst, xst2, xclr, xset, xwide]
    refine x_aload_n dX10_lasting_42 rfl ?_
    refine y_getr dX10_lasting_43 F_C_12 (fxo_64 hx) rfl (fxp_64_0 hx) ?_
    refine x_iload_n dX10_lasting_46 rfl ?_
    refine x_callV (k2 := 0) (n2 := 0) dX10_lasting_47 LV_C_117 (m_World_worth hx hW hR hqc) rfl rfl (fxo_65 hx) rfl (Nat.le_of_ble_eq_true rfl) (Nat.le_of_ble_eq_true rfl) (Nat.le_of_ble_eq_true rfl) (Nat.le_of_ble_eq_true rfl) ?_
    rintro _ _ ⟨F, rfl, rfl⟩
    refine x_istore dX10_lasting_50 (Nat.le_of_ble_eq_true rfl) ?_
    try simp only [xst, xst2, xclr, xset, xwide]
    refine x_iconst (v := 0) dX10_lasting_52 (by decide) ?_
    refine x_istore dX10_lasting_53 (Nat.le_of_ble_eq_true rfl) ?_
    try simp only [xst, xst2, xclr, xset, xwide]
    have K55 : ∀ (fuel : Nat) (n : Nat) (I2 : Nat → Nat → Int32) (hn : n ≤ 100) (hF : xFrm [80] I I2) (hl : laS s q (100 - n) n = laS s q 100 0), 100 - n < fuel → xX g Y_C_lasting 6 0 0 (fun r σ => ∃ I1 : Nat → Nat → Int32, r = some (.int (a_lasting s (nI q))) ∧ σ = (nx, sh, P, I1) ∧ xFrm [80] I I1) 55 [some (.ref 64), some (.int (nI q)), some (.int (s (18 + q))), some (.int (s (22 + q))), some (.int (wc s q)), some (.int (nI n))] [] (nx, sh, P, I2) := by
      intro fuel
      induction fuel with
      | zero => intro n I2 hn hF hl hm; exact absurd hm (Nat.not_lt_zero _)
      | succ fuel ih55 =>
        intro n I2 hn hF hl hm
        have hW2 := hW.fl hF
        have e65 : I2 65 = I 65 := hF 65 (by decide)
        refine x_iload dX10_lasting_55 rfl ?_
        refine x_bipush (v := 99) dX10_lasting_57 (by decide) ?_
        refine x_icmp_gt (tgt := 96) dX10_lasting_59 rfl (fun c59 => ?_) (fun c59 => ?_)
        · have hn1 : 100 - n = 0 := by have h9 : 99 < n := (nI_ltI (a := 99) (by decide) (by omega)).mp c59; omega
          refine x_bipush (v := (-5)) dX10_lasting_96 (by decide) ?_
          refine x_ireturn dX10_lasting_98 rfl nb_int ?_
          exact ⟨I2, by unfold a_lasting; rw [if_pos (show 0 ≤ nI q ∧ nI q < s 0 from by rw [e0]; exact b_t c11), nI_clamp (by omega), ← hl, hn1]; rfl, rfl, hF⟩
        · have hn1 : n < 100 := by have h9 : ¬ 99 < n := fun z => c59 ((nI_ltI (a := 99) (by decide) (by omega)).mpr z); omega
          refine x_aload_n dX10_lasting_62 rfl ?_
          refine y_getr dX10_lasting_63 F_C_12 (fxo_64 hx) rfl (fxp_64_0 hx) ?_
          refine x_iload_n dX10_lasting_66 rfl ?_
          refine x_iload_n dX10_lasting_67 rfl ?_
          refine x_iload_n dX10_lasting_68 rfl ?_
          refine x_aload_n dX10_lasting_69 rfl ?_
          refine y_getr dX10_lasting_70 F_C_12 (fxo_64 hx) rfl (fxp_64_0 hx) ?_
          refine y_geti dX10_lasting_73 F_C_128 (fxo_65 hx) rfl ((congrFun e65 9).trans hW9) ?_
          refine x_iload dX10_lasting_76 rfl ?_
          refine x_iadd dX10_lasting_78 ?_
          refine x_callV (k2 := 0) (n2 := 0) dX10_lasting_79 LV_C_218 (m_World_worthAs (I := I2) hx hW2 hR hqc hb hb9 hp hp9 (dy := n9 + n) (by rw [e9, nI_add]) (by omega)) rfl rfl (fxo_65 hx) rfl (Nat.le_of_ble_eq_true rfl) (Nat.le_of_ble_eq_true rfl) (Nat.le_of_ble_eq_true rfl) (Nat.le_of_ble_eq_true rfl) ?_
          rintro _ _ ⟨F2, rfl, rfl⟩
          refine x_iload dX10_lasting_82 rfl ?_
          refine x_icmp_ge (tgt := 90) dX10_lasting_84 rfl (fun c84 => ?_) (fun c84 => ?_)
          · refine x_iinc (v := (nI (n + 1))) dX10_lasting_90 rfl (nI_1 _) (Nat.le_of_ble_eq_true rfl) ?_
            try simp only [xst, xst2, xclr, xset, xwide]
            refine x_goto (tgt := 55) dX10_lasting_93 rfl ?_
            exact ih55 (n + 1) _ (by omega) (xFrv hF) (by rw [← hl, show 100 - n = (100 - (n + 1)) + 1 by omega, lst_s, if_neg (Int32.not_lt.mpr c84)]) (by omega)
          · refine x_iload dX10_lasting_87 rfl ?_
            refine x_ireturn dX10_lasting_89 rfl nb_int ?_
            exact ⟨_, by unfold a_lasting; rw [if_pos (show 0 ≤ nI q ∧ nI q < s 0 from by rw [e0]; exact b_t c11), nI_clamp (by omega), ← hl, show 100 - n = (100 - (n + 1)) + 1 by omega, lst_s, if_pos (Int32.not_le.mp c84)], rfl, xFrv hF⟩
    exact K55 _ 0 (va_up I 80 F) (Nat.zero_le _) (xFrv xFrm.rf) rfl (Nat.lt_succ_self _)
  · refine x_iconst (v := (-1)) dX10_lasting_14 (by decide) ?_
    refine x_ireturn dX10_lasting_15 rfl nb_int ?_
    exact ⟨I, by unfold a_lasting; rw [if_neg (show ¬ (0 ≤ c ∧ c < s 0) from by rw [e0]; exact b_f c11)], rfl, xFrm.rf⟩

set_option maxHeartbeats 4000000 in
set_option maxRecDepth 100000 in
theorem m_C_looked {g : xG} {nx : Nat} {sh : Nat → Nat × Nat} {P : Nat → Nat → Option Nat} {I : Nat → Nat → Int32} (hx : xFx sh P) {s : Nat → Int32} (hW : xWN nx sh P I s) (hR : RI s)  : xMet g Y_C_looked 6 0 0 [.ref 64] (nx, sh, P, I) (fun r σ => ∃ I1 : Nat → Nat → Int32, r = some (.int (a_looked s)) ∧ σ = (nx, sh, P, I1) ∧ xFrm [80] I I1) := by
  refine xMet.of [some (.ref 64), none] (by decide +kernel) (Nat.le_of_ble_eq_true rfl) rfl ?_
  obtain ⟨⟨tTape, tCoins, tWares, tBuys, tSlates, tPlans, tBooked⟩, ⟨cTape, cCoins, cWares, cBuys, cSlates, cPlans, cBooked⟩, hW7, hW9, hL⟩ := id hW
  obtain ⟨⟨n0, b0, e0⟩, ⟨n1, b1, e1⟩, ⟨n2, b2, e2⟩, ⟨n3, b3, e3⟩, ⟨n4, b4, e4⟩, ⟨n5, b5, e5⟩, ⟨n6, b6, e6⟩, ⟨n7, b7, e7⟩, ⟨n9, b9, e9⟩⟩ := hR.k
  have k7 : cN s 7 = n7 := cN_of e7 (by omega)
  rw [k7] at tTape cTape
  have k0 : cN s 0 = n0 := cN_of e0 (by omega)
  rw [k0] at tCoins cCoins
  have k1 : cN s 1 = n1 := cN_of e1 (by omega)
  rw [k1] at tWares cWares
  have k3 : cN s 3 = n3 := cN_of e3 (by omega)
  rw [k3] at tBuys cBuys
  have k4 : cN s 4 = n4 := cN_of e4 (by omega)
  rw [k4] at tSlates cSlates
  have k5 : cN s 5 = n5 := cN_of e5 (by omega)
  rw [k5] at tPlans cPlans
  have k6 : cN s 6 = n6 := cN_of e6 (by omega)
  rw [k6] at tBooked cBooked
  refine x_iconst (v := 0) dX10_looked_0 (by decide) ?_
  refine x_istore_n dX10_looked_1 (Nat.le_of_ble_eq_true rfl) ?_
  try simp only [xst, xst2, xclr, xset, xwide]
  have K2 : ∀ (fuel : Nat) (i : Nat) (I2 : Nat → Nat → Int32) (hi : i ≤ n6) (hF : xFrm [80] I I2) (hl : lkS' s (n6 - i) i = lkS' s n6 0), n6 - i < fuel → xX g Y_C_looked 6 0 0 (fun r σ => ∃ I1 : Nat → Nat → Int32, r = some (.int (a_looked s)) ∧ σ = (nx, sh, P, I1) ∧ xFrm [80] I I1) 2 [some (.ref 64), some (.int (nI i))] [] (nx, sh, P, I2) := by
    intro fuel
    induction fuel with
    | zero => intro i I2 hi hF hl hm; exact absurd hm (Nat.not_lt_zero _)
    | succ fuel ih2 =>
      intro i I2 hi hF hl hm
      have hW2 := hW.fl hF
      have tB2 : xTb sh P I2 78 79 2 8 n6 := tBooked.other (hF 78 (by decide))
      have e79 : I2 79 = I 79 := hF 79 (by decide)
      refine x_iload_n dX10_looked_2 rfl ?_
      refine x_aload_n dX10_looked_3 rfl ?_
      refine y_getr dX10_looked_4 F_C_12 (fxo_64 hx) rfl (fxp_64_0 hx) ?_
      refine y_getr dX10_looked_7 F_C_228 (fxo_65 hx) rfl (fxp_65_6 hx) ?_
      refine x_callV (k2 := 0) (n2 := 0) dX10_looked_10 LV_C_89 (m_Table_rows tB2) rfl rfl (fxo_78 hx) rfl (Nat.le_of_ble_eq_true rfl) (Nat.le_of_ble_eq_true rfl) (Nat.le_of_ble_eq_true rfl) (Nat.le_of_ble_eq_true rfl) ?_
      rintro _ _ ⟨rfl, rfl⟩
      refine x_icmp_ge (tgt := 58) dX10_looked_13 rfl (fun c13 => ?_) (fun c13 => ?_)
      · have hie : i = n6 := cge_t (by omega) hi c13
        refine x_bipush (v := (-5)) dX10_looked_58 (by decide) ?_
        refine x_ireturn dX10_looked_60 rfl nb_int ?_
        exact ⟨I2, by unfold a_looked; rw [k6, ← hl, show n6 - i = 0 by omega]; rfl, rfl, hF⟩
      · have him : i < n6 := cge_f (by omega) hi c13
        refine x_aload_n dX10_looked_16 rfl ?_
        refine y_getr dX10_looked_17 F_C_12 (fxo_64 hx) rfl (fxp_64_0 hx) ?_
        refine x_aload_n dX10_looked_20 rfl ?_
        refine y_getr dX10_looked_21 F_C_12 (fxo_64 hx) rfl (fxp_64_0 hx) ?_
        refine y_getr dX10_looked_24 F_C_228 (fxo_65 hx) rfl (fxp_65_6 hx) ?_
        refine x_iload_n dX10_looked_27 rfl ?_
        refine x_iconst (v := 0) dX10_looked_28 (by decide) ?_
        obtain ⟨⟨p, hp, hp2⟩, -⟩ := hR.2.2.2.2.2.2.2.2.2.1 i (by omega)
        have hcNp : cN s (101 + i) = p := cN_of hp2 (by have := hR.c0.2; omega)
        refine x_callV (k2 := 0) (n2 := 0) dX10_looked_29 LV_C_125 (m_Table_get tB2 (x := nI i) (z := nI 0)) rfl rfl (fxo_78 hx) rfl (Nat.le_of_ble_eq_true rfl) (Nat.le_of_ble_eq_true rfl) (Nat.le_of_ble_eq_true rfl) (Nat.le_of_ble_eq_true rfl) ?_
        rintro _ _ ⟨rfl, rfl⟩
        rw [xTg_in (r := i) (k := 0) (by omega) (by omega) (by omega) (by omega), e79, (cBooked i him).1, hp2]
        refine x_callV (k2 := 0) (n2 := 0) dX10_looked_32 LV_C_117 (m_World_worth (I := I2) hx hW2 hR (c := p) hp) rfl rfl (fxo_65 hx) rfl (Nat.le_of_ble_eq_true rfl) (Nat.le_of_ble_eq_true rfl) (Nat.le_of_ble_eq_true rfl) (Nat.le_of_ble_eq_true rfl) ?_
        rintro _ _ ⟨F, rfl, rfl⟩
        refine x_aload_n dX10_looked_35 rfl ?_
        refine y_getr dX10_looked_36 F_C_12 (fxo_64 hx) rfl (fxp_64_0 hx) ?_
        refine y_getr dX10_looked_39 F_C_228 (fxo_65 hx) rfl (fxp_65_6 hx) ?_
        refine x_iload_n dX10_looked_42 rfl ?_
        refine x_iconst (v := 1) dX10_looked_43 (by decide) ?_
        refine x_callV (k2 := 0) (n2 := 0) dX10_looked_44 LV_C_125 (m_Table_get (I := va_up I2 80 F) (tB2.other (va_up_no (by decide))) (x := nI i) (z := nI 1)) rfl rfl (fxo_78 hx) rfl (Nat.le_of_ble_eq_true rfl) (Nat.le_of_ble_eq_true rfl) (Nat.le_of_ble_eq_true rfl) (Nat.le_of_ble_eq_true rfl) ?_
        rintro _ _ ⟨rfl, rfl⟩
        rw [xTg_in (r := i) (k := 1) (by omega) (by omega) (by omega) (by omega), va_up_no (by decide), e79, (cBooked i him).2]
        refine x_icmp_eq (tgt := 52) dX10_looked_47 rfl (fun c47 => ?_) (fun c47 => ?_)
        · refine x_iinc (v := (nI (i + 1))) dX10_looked_52 rfl (nI_1 _) (Nat.le_of_ble_eq_true rfl) ?_
          try simp only [xst, xst2, xclr, xset, xwide]
          refine x_goto (tgt := 2) dX10_looked_55 rfl ?_
          exact ih2 (i + 1) _ (by omega) (xFrv hF) (by rw [← hl, show n6 - i = (n6 - (i + 1)) + 1 by omega, lkS_s, hcNp, if_pos c47]) (by omega)
        · refine x_iload_n dX10_looked_50 rfl ?_
          refine x_ireturn dX10_looked_51 rfl nb_int ?_
          exact ⟨_, by unfold a_looked; rw [k6, ← hl, show n6 - i = (n6 - (i + 1)) + 1 by omega, lkS_s, hcNp, if_neg c47], rfl, xFrv hF⟩
  exact K2 _ 0 I (Nat.zero_le _) xFrm.rf rfl (Nat.lt_succ_self _)
