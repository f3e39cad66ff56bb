theorem i01 {w : Int32} (h : 0 ≤ w ∧ w ≤ 1) (h2 : ¬ w = 0) : w = 1 := by grind
set_option maxHeartbeats 4000000 in
set_option maxRecDepth 100000 in
theorem m_C_set {g : xG} {nx : Nat} {sh : Nat → Nat × Nat} {P : Nat → Nat → Option Nat} {I : Nat → Nat → Int32} (hx : xFx sh P) {s : Nat → Int32} (hW : xWN nx sh P I s) (hR : RI s) {c w v : Int32} : xMet g Y_C_set 2 0 0 [.ref 64, .int c, .int w, .int v] (nx, sh, P, I) (fun r σ => ∃ I1 : Nat → Nat → Int32, r = some (.int (a_set s c w v)) ∧ σ = (nx, sh, P, I1) ∧ xWN nx sh P I1 (s_set s c w v) ∧ xFrm [69] I I1) := by
  refine xMet.of [some (.ref 64), some (.int c), some (.int w), some (.int v)] (by decide +kernel) (Nat.le_of_ble_eq_true rfl) rfl ?_
  obtain ⟨⟨tTape, tCoins, tWares, tBuys, tSlates, tPlans, tBooked⟩, ⟨cTape, cCoins, cWares, cBuys, cSlates, cPlans, cBooked⟩, hW7, hW9, hL⟩ := id hW
  obtain ⟨⟨n0, b0, e0⟩, ⟨n1, b1, e1⟩, ⟨n2, b2, e2⟩, ⟨n3, b3, e3⟩, ⟨n4, b4, e4⟩, ⟨n5, b5, e5⟩, ⟨n6, b6, e6⟩, ⟨n7, b7, e7⟩, ⟨n9, b9, e9⟩⟩ := hR.k
  have k7 : cN s 7 = n7 := cN_of e7 (by omega)
  rw [k7] at tTape cTape
  have k0 : cN s 0 = n0 := cN_of e0 (by omega)
  rw [k0] at tCoins cCoins
  have k1 : cN s 1 = n1 := cN_of e1 (by omega)
  rw [k1] at tWares cWares
  have k3 : cN s 3 = n3 := cN_of e3 (by omega)
  rw [k3] at tBuys cBuys
  have k4 : cN s 4 = n4 := cN_of e4 (by omega)
  rw [k4] at tSlates cSlates
  have k5 : cN s 5 = n5 := cN_of e5 (by omega)
  rw [k5] at tPlans cPlans
  have k6 : cN s 6 = n6 := cN_of e6 (by omega)
  rw [k6] at tBooked cBooked
  refine x_aload_n dX10_set_0 rfl ?_
  refine y_getr dX10_set_1 F_C_12 (fxo_64 hx) rfl (fxp_64_0 hx) ?_
  refine y_getr dX10_set_4 F_C_110 (fxo_65 hx) rfl (fxp_65_1 hx) ?_
  refine x_iload_n dX10_set_7 rfl ?_
  refine x_callV (k2 := 0) (n2 := 0) dX10_set_8 LV_C_113 (m_Table_has tCoins) rfl rfl (fxo_68 hx) rfl (Nat.le_of_ble_eq_true rfl) (Nat.le_of_ble_eq_true rfl) (Nat.le_of_ble_eq_true rfl) (Nat.le_of_ble_eq_true rfl) ?_
  rintro _ _ ⟨rfl, rfl⟩
  refine x_if_eq (tgt := 23) dX10_set_11 rfl (fun c11 => ?_) (fun c11 => ?_)
  · refine x_iconst (v := (-1)) dX10_set_23 (by decide) ?_
    refine x_ireturn dX10_set_24 rfl nb_int ?_
    first | exact ⟨I, by unfold a_set; rw [if_neg (fun y => (show ¬ (0 ≤ c ∧ c < s 0) from by rw [e0]; exact b_f c11) y.1)], rfl, by unfold s_set; rw [if_neg (fun y => (show ¬ (0 ≤ c ∧ c < s 0) from by rw [e0]; exact b_f c11) y.1.1)]; exact hW, xFrm.rf⟩ | (have h8 := o_f c20; exact ⟨I, by unfold a_set; rw [if_neg (fun y => h8 y.2)], rfl, by unfold s_set; rw [if_neg (fun y => h8 y.1.2)]; exact hW, xFrm.rf⟩)
  · refine x_iload_n dX10_set_14 rfl ?_
    refine x_iconst (v := 0) dX10_set_15 (by decide) ?_
    refine x_iconst (v := 1) dX10_set_16 (by decide) ?_
    refine x_callS (k2 := 0) (n2 := 0) dX10_set_17 LS_C_71 m_C_isOutside rfl rfl (Nat.le_of_ble_eq_true rfl) (Nat.le_of_ble_eq_true rfl) (Nat.le_of_ble_eq_true rfl) (Nat.le_of_ble_eq_true rfl) ?_
    rintro _ _ ⟨rfl, rfl⟩
    refine x_if_eq (tgt := 25) dX10_set_20 rfl (fun c20 => ?_) (fun c20 => ?_)
    · obtain ⟨q, hq, rfl⟩ := i_2 (n := n0) (by omega) (b_t c11)
      refine x_iload_n dX10_set_25 rfl ?_
      refine x_iload_n dX10_set_26 rfl ?_
      refine x_if_ne (tgt := 34) dX10_set_27 rfl (fun c27 => ?_) (fun c27 => ?_)
      · have hw : w = 1 := i01 (o_t c20) c27
        subst hw
        refine x_iconst (v := 0) dX10_set_34 (by decide) ?_
        refine x_bipush (v := 9) dX10_set_35 (by decide) ?_
        refine x_callS (k2 := 0) (n2 := 0) dX10_set_37 LS_C_71 m_C_isOutside rfl rfl (Nat.le_of_ble_eq_true rfl) (Nat.le_of_ble_eq_true rfl) (Nat.le_of_ble_eq_true rfl) (Nat.le_of_ble_eq_true rfl) ?_
        rintro _ _ ⟨rfl, rfl⟩
        refine x_if_eq (tgt := 46) dX10_set_40 rfl (fun c40 => ?_) (fun c40 => ?_)
        · have hv9 : (1 : Int32) - 1 ≤ v ∧ v ≤ 9 := by rw [show (1 : Int32) - 1 = 0 by decide]; exact o_t c40
          refine x_aload_n dX10_set_46 rfl ?_
          refine y_getr dX10_set_47 F_C_12 (fxo_64 hx) rfl (fxp_64_0 hx) ?_
          refine y_getr dX10_set_50 F_C_110 (fxo_65 hx) rfl (fxp_65_1 hx) ?_
          refine x_iload_n dX10_set_53 rfl ?_
          refine x_iload_n dX10_set_54 rfl ?_
          refine x_if_ne (tgt := 62) dX10_set_55 rfl (fun c55 => ?_) (fun c55 => ?_)
          · skip
            refine x_iconst (v := 3) dX10_set_62 (by decide) ?_
            refine x_iload_n dX10_set_63 rfl ?_
            refine x_callV (k2 := 0) (n2 := 0) dX10_set_64 LV_C_85 (m_Table_put tCoins (r := q) (q := 3) hq (by decide)) rfl rfl (fxo_68 hx) rfl (Nat.le_of_ble_eq_true rfl) (Nat.le_of_ble_eq_true rfl) (Nat.le_of_ble_eq_true rfl) (Nat.le_of_ble_eq_true rfl) ?_
            rintro _ _ ⟨rfl, rfl⟩
            rw [(cCoins q hq).2.2.2.1]
            refine x_ireturn dX10_set_67 rfl nb_int ?_
            have hix : ixC 3 q = 22 + q := by unfold ixC; rw [if_pos (by decide)]
            have hp := coin_put hW hR (q := q) (j := 3) (v := v) (by omega) (by decide)
            rw [hix] at hp
            exact ⟨_, by unfold a_set; rw [if_pos ⟨(show 0 ≤ nI q ∧ nI q < s 0 from by rw [e0]; exact b_t c11), by decide⟩, if_pos hv9, nI_clamp (by omega), if_neg (by decide)], rfl, by unfold s_set; rw [if_pos ⟨⟨(show 0 ≤ nI q ∧ nI q < s 0 from by rw [e0]; exact b_t c11), by decide⟩, hv9⟩, nI_clamp (by omega), if_neg (by decide)]; exact hp, xFrs xFrm.rf⟩
          · exact absurd c55 (by decide)
        · have hv9 : ¬ ((1 : Int32) - 1 ≤ v ∧ v ≤ 9) := by rw [show (1 : Int32) - 1 = 0 by decide]; exact o_f c40
          refine x_bipush (v := (-2)) dX10_set_43 (by decide) ?_
          refine x_ireturn dX10_set_45 rfl nb_int ?_
          exact ⟨I, by unfold a_set; rw [if_pos ⟨(show 0 ≤ nI q ∧ nI q < s 0 from by rw [e0]; exact b_t c11), by decide⟩, if_neg hv9], rfl, by unfold s_set; rw [if_neg (fun y => hv9 y.2)]; exact hW, xFrm.rf⟩
      · have hw : w = 0 := c27
        subst hw
        refine x_iconst (v := 1) dX10_set_30 (by decide) ?_
        refine x_goto (tgt := 35) dX10_set_31 rfl ?_
        refine x_bipush (v := 9) dX10_set_35 (by decide) ?_
        refine x_callS (k2 := 0) (n2 := 0) dX10_set_37 LS_C_71 m_C_isOutside rfl rfl (Nat.le_of_ble_eq_true rfl) (Nat.le_of_ble_eq_true rfl) (Nat.le_of_ble_eq_true rfl) (Nat.le_of_ble_eq_true rfl) ?_
        rintro _ _ ⟨rfl, rfl⟩
        refine x_if_eq (tgt := 46) dX10_set_40 rfl (fun c40 => ?_) (fun c40 => ?_)
        · have hv9 : (1 : Int32) - 0 ≤ v ∧ v ≤ 9 := by rw [show (1 : Int32) - 0 = 1 by decide]; exact o_t c40
          refine x_aload_n dX10_set_46 rfl ?_
          refine y_getr dX10_set_47 F_C_12 (fxo_64 hx) rfl (fxp_64_0 hx) ?_
          refine y_getr dX10_set_50 F_C_110 (fxo_65 hx) rfl (fxp_65_1 hx) ?_
          refine x_iload_n dX10_set_53 rfl ?_
          refine x_iload_n dX10_set_54 rfl ?_
          refine x_if_ne (tgt := 62) dX10_set_55 rfl (fun c55 => ?_) (fun c55 => ?_)
          · exact absurd rfl c55
          · skip
            refine x_iconst (v := 2) dX10_set_58 (by decide) ?_
            refine x_goto (tgt := 63) dX10_set_59 rfl ?_
            refine x_iload_n dX10_set_63 rfl ?_
            refine x_callV (k2 := 0) (n2 := 0) dX10_set_64 LV_C_85 (m_Table_put tCoins (r := q) (q := 2) hq (by decide)) rfl rfl (fxo_68 hx) rfl (Nat.le_of_ble_eq_true rfl) (Nat.le_of_ble_eq_true rfl) (Nat.le_of_ble_eq_true rfl) (Nat.le_of_ble_eq_true rfl) ?_
            rintro _ _ ⟨rfl, rfl⟩
            rw [(cCoins q hq).2.2.1]
            refine x_ireturn dX10_set_67 rfl nb_int ?_
            have hix : ixC 2 q = 18 + q := by unfold ixC; rw [if_pos (by decide)]
            have hp := coin_put hW hR (q := q) (j := 2) (v := v) (by omega) (by decide)
            rw [hix] at hp
            exact ⟨_, by unfold a_set; rw [if_pos ⟨(show 0 ≤ nI q ∧ nI q < s 0 from by rw [e0]; exact b_t c11), by decide⟩, if_pos hv9, nI_clamp (by omega), if_pos rfl], rfl, by unfold s_set; rw [if_pos ⟨⟨(show 0 ≤ nI q ∧ nI q < s 0 from by rw [e0]; exact b_t c11), by decide⟩, hv9⟩, nI_clamp (by omega), if_pos rfl]; exact hp, xFrs xFrm.rf⟩
        · have hv9 : ¬ ((1 : Int32) - 0 ≤ v ∧ v ≤ 9) := by rw [show (1 : Int32) - 0 = 1 by decide]; exact o_f c40
          refine x_bipush (v := (-2)) dX10_set_43 (by decide) ?_
          refine x_ireturn dX10_set_45 rfl nb_int ?_
          exact ⟨I, by unfold a_set; rw [if_pos ⟨(show 0 ≤ nI q ∧ nI q < s 0 from by rw [e0]; exact b_t c11), by decide⟩, if_neg hv9], rfl, by unfold s_set; rw [if_neg (fun y => hv9 y.2)]; exact hW, xFrm.rf⟩
    · refine x_iconst (v := (-1)) dX10_set_23 (by decide) ?_
      refine x_ireturn dX10_set_24 rfl nb_int ?_
      first | exact ⟨I, by unfold a_set; rw [if_neg (fun y => (show ¬ (0 ≤ c ∧ c < s 0) from by rw [e0]; exact b_f c11) y.1)], rfl, by unfold s_set; rw [if_neg (fun y => (show ¬ (0 ≤ c ∧ c < s 0) from by rw [e0]; exact b_f c11) y.1.1)]; exact hW, xFrm.rf⟩ | (have h8 := o_f c20; exact ⟨I, by unfold a_set; rw [if_neg (fun y => h8 y.2)], rfl, by unfold s_set; rw [if_neg (fun y => h8 y.1.2)]; exact hW, xFrm.rf⟩)

set_option maxHeartbeats 4000000 in
set_option maxRecDepth 100000 in
theorem m_C_coin {g : xG} {nx : Nat} {sh : Nat → Nat × Nat} {P : Nat → Nat → Option Nat} {I : Nat → Nat → Int32} (hx : xFx sh P) {s : Nat → Int32} (hW : xWN nx sh P I s) (hR : RI s) {k v b p : Int32} : xMet g Y_C_coin 3 0 0 [.ref 64, .int k, .int v, .int b, .int p] (nx, sh, P, I) (fun r σ => ∃ I1 : Nat → Nat → Int32, r = some (.int (a_coin s k v b p)) ∧ σ = (nx, sh, P, I1) ∧ xWN nx sh P I1 (s_coin s k v b p) ∧ xFrm [68, 69] I I1) := by
  refine xMet.of [some (.ref 64), some (.int k), some (.int v), some (.int b), some (.int p), none] (by decide +kernel) (Nat.le_of_ble_eq_true rfl) rfl ?_
  obtain ⟨⟨tTape, tCoins, tWares, tBuys, tSlates, tPlans, tBooked⟩, ⟨cTape, cCoins, cWares, cBuys, cSlates, cPlans, cBooked⟩, hW7, hW9, hL⟩ := id hW
  obtain ⟨⟨n0, b0, e0⟩, ⟨n1, b1, e1⟩, ⟨n2, b2, e2⟩, ⟨n3, b3, e3⟩, ⟨n4, b4, e4⟩, ⟨n5, b5, e5⟩, ⟨n6, b6, e6⟩, ⟨n7, b7, e7⟩, ⟨n9, b9, e9⟩⟩ := hR.k
  have k7 : cN s 7 = n7 := cN_of e7 (by omega)
  rw [k7] at tTape cTape
  have k0 : cN s 0 = n0 := cN_of e0 (by omega)
  rw [k0] at tCoins cCoins
  have k1 : cN s 1 = n1 := cN_of e1 (by omega)
  rw [k1] at tWares cWares
  have k3 : cN s 3 = n3 := cN_of e3 (by omega)
  rw [k3] at tBuys cBuys
  have k4 : cN s 4 = n4 := cN_of e4 (by omega)
  rw [k4] at tSlates cSlates
  have k5 : cN s 5 = n5 := cN_of e5 (by omega)
  rw [k5] at tPlans cPlans
  have k6 : cN s 6 = n6 := cN_of e6 (by omega)
  rw [k6] at tBooked cBooked
  refine x_iload_n dX10_coin_0 rfl ?_
  refine x_iconst (v := 0) dX10_coin_1 (by decide) ?_
  refine x_bipush (v := 6) dX10_coin_2 (by decide) ?_
  refine x_callS (k2 := 0) (n2 := 0) dX10_coin_4 LS_C_71 m_C_isOutside rfl rfl (Nat.le_of_ble_eq_true rfl) (Nat.le_of_ble_eq_true rfl) (Nat.le_of_ble_eq_true rfl) (Nat.le_of_ble_eq_true rfl) ?_
  rintro _ _ ⟨rfl, rfl⟩
  refine x_if_eq (tgt := 12) dX10_coin_7 rfl (fun c7 => ?_) (fun c7 => ?_)
  · refine x_iload_n dX10_coin_12 rfl ?_
    refine x_iconst (v := 0) dX10_coin_13 (by decide) ?_
    refine x_bipush (v := 9) dX10_coin_14 (by decide) ?_
    refine x_callS (k2 := 0) (n2 := 0) dX10_coin_16 LS_C_71 m_C_isOutside rfl rfl (Nat.le_of_ble_eq_true rfl) (Nat.le_of_ble_eq_true rfl) (Nat.le_of_ble_eq_true rfl) (Nat.le_of_ble_eq_true rfl) ?_
    rintro _ _ ⟨rfl, rfl⟩
    refine x_if_ne (tgt := 43) dX10_coin_19 rfl (fun c19 => ?_) (fun c19 => ?_)
    · refine x_bipush (v := (-2)) dX10_coin_43 (by decide) ?_
      refine x_ireturn dX10_coin_45 rfl nb_int ?_
      first
      | (have h8 := o_f c19; exact ⟨I, by unfold a_coin; rw [if_pos (o_t c7), if_neg (fun y => h8 y.1)], rfl, by unfold s_coin; rw [if_neg (fun y => h8 y.2.1.1)]; exact hW, xFrm.rf⟩)
      | (have h8 := o_f c29; exact ⟨I, by unfold a_coin; rw [if_pos (o_t c7), if_neg (fun y => h8 y.2.1)], rfl, by unfold s_coin; rw [if_neg (fun y => h8 y.2.1.2.1)]; exact hW, xFrm.rf⟩)
      | (have h8 := o_f c40; exact ⟨I, by unfold a_coin; rw [if_pos (o_t c7), if_neg (fun y => h8 y.2.2)], rfl, by unfold s_coin; rw [if_neg (fun y => h8 y.2.1.2.2)]; exact hW, xFrm.rf⟩)
    · refine x_iload_n dX10_coin_22 rfl ?_
      refine x_iconst (v := 1) dX10_coin_23 (by decide) ?_
      refine x_bipush (v := 9) dX10_coin_24 (by decide) ?_
      refine x_callS (k2 := 0) (n2 := 0) dX10_coin_26 LS_C_71 m_C_isOutside rfl rfl (Nat.le_of_ble_eq_true rfl) (Nat.le_of_ble_eq_true rfl) (Nat.le_of_ble_eq_true rfl) (Nat.le_of_ble_eq_true rfl) ?_
      rintro _ _ ⟨rfl, rfl⟩
      refine x_if_ne (tgt := 43) dX10_coin_29 rfl (fun c29 => ?_) (fun c29 => ?_)
      · refine x_bipush (v := (-2)) dX10_coin_43 (by decide) ?_
        refine x_ireturn dX10_coin_45 rfl nb_int ?_
        first
        | (have h8 := o_f c19; exact ⟨I, by unfold a_coin; rw [if_pos (o_t c7), if_neg (fun y => h8 y.1)], rfl, by unfold s_coin; rw [if_neg (fun y => h8 y.2.1.1)]; exact hW, xFrm.rf⟩)
        | (have h8 := o_f c29; exact ⟨I, by unfold a_coin; rw [if_pos (o_t c7), if_neg (fun y => h8 y.2.1)], rfl, by unfold s_coin; rw [if_neg (fun y => h8 y.2.1.2.1)]; exact hW, xFrm.rf⟩)
        | (have h8 := o_f c40; exact ⟨I, by unfold a_coin; rw [if_pos (o_t c7), if_neg (fun y => h8 y.2.2)], rfl, by unfold s_coin; rw [if_neg (fun y => h8 y.2.1.2.2)]; exact hW, xFrm.rf⟩)
      · refine x_iload dX10_coin_32 rfl ?_
        refine x_iconst (v := 0) dX10_coin_34 (by decide) ?_
        refine x_bipush (v := 9) dX10_coin_35 (by decide) ?_
        refine x_callS (k2 := 0) (n2 := 0) dX10_coin_37 LS_C_71 m_C_isOutside rfl rfl (Nat.le_of_ble_eq_true rfl) (Nat.le_of_ble_eq_true rfl) (Nat.le_of_ble_eq_true rfl) (Nat.le_of_ble_eq_true rfl) ?_
        rintro _ _ ⟨rfl, rfl⟩
        refine x_if_eq (tgt := 46) dX10_coin_40 rfl (fun c40 => ?_) (fun c40 => ?_)
        · refine x_aload_n dX10_coin_46 rfl ?_
          refine y_getr dX10_coin_47 F_C_12 (fxo_64 hx) rfl (fxp_64_0 hx) ?_
          refine y_getr dX10_coin_50 F_C_110 (fxo_65 hx) rfl (fxp_65_1 hx) ?_
          refine x_callV (k2 := 0) (n2 := 0) dX10_coin_53 LV_C_75 (m_Table_isFull tCoins) rfl rfl (fxo_68 hx) rfl (Nat.le_of_ble_eq_true rfl) (Nat.le_of_ble_eq_true rfl) (Nat.le_of_ble_eq_true rfl) (Nat.le_of_ble_eq_true rfl) ?_
          rintro _ _ ⟨rfl, rfl⟩
          refine x_if_eq (tgt := 62) dX10_coin_56 rfl (fun c56 => ?_) (fun c56 => ?_)
          · have hnL : n0 < 4 := Nat.lt_of_not_le (b_f c56)
            have hnm : ¬ nI n0 = 4 := fun z => by have := (nI_eqI (b := 4) (by omega) (by decide)).mp z; omega
            refine x_aload_n dX10_coin_62 rfl ?_
            refine y_getr dX10_coin_63 F_C_12 (fxo_64 hx) rfl (fxp_64_0 hx) ?_
            refine y_getr dX10_coin_66 F_C_110 (fxo_65 hx) rfl (fxp_65_1 hx) ?_
            refine x_callV (k2 := 0) (n2 := 0) dX10_coin_69 LV_C_81 (m_Table_add tCoins hnL) rfl rfl (fxo_68 hx) rfl (Nat.le_of_ble_eq_true rfl) (Nat.le_of_ble_eq_true rfl) (Nat.le_of_ble_eq_true rfl) (Nat.le_of_ble_eq_true rfl) ?_
            rintro _ _ ⟨rfl, rfl⟩
            rw [apF_0 (vs := [0, 0, 0, 0, 0, 0, 0, 0]) (fun q hq => by match q, hq with | 0, _ => rfl | 1, _ => rfl | 2, _ => rfl | 3, _ => rfl | 4, _ => rfl | 5, _ => rfl | 6, _ => rfl | 7, _ => rfl)]
            refine x_istore dX10_coin_72 (Nat.le_of_ble_eq_true rfl) ?_
            try simp only [xst, xst2, xclr, xset, xwide]
            refine x_aload_n dX10_coin_74 rfl ?_
            refine y_getr dX10_coin_75 F_C_12 (fxo_64 hx) rfl (fxp_64_0 hx) ?_
            refine y_getr dX10_coin_78 F_C_110 (fxo_65 hx) rfl (fxp_65_1 hx) ?_
            refine x_iload dX10_coin_81 rfl ?_
            refine x_iconst (v := 0) dX10_coin_83 (by decide) ?_
            refine x_iload_n dX10_coin_84 rfl ?_
            refine x_callV (k2 := 0) (n2 := 0) dX10_coin_85 LV_C_85 (m_Table_put (r := n0) (q := 0) (tCoins.app hnL) (by omega) (by decide)) rfl rfl (fxo_68 hx) rfl (Nat.le_of_ble_eq_true rfl) (Nat.le_of_ble_eq_true rfl) (Nat.le_of_ble_eq_true rfl) (Nat.le_of_ble_eq_true rfl) ?_
            rintro _ _ ⟨rfl, rfl⟩
            rw [xup_row, va_up_at, apF_s (vs' := [k, 0, 0, 0, 0, 0, 0, 0]) (by decide) (fun q hq => by match q, hq with | 0, _ => rfl | 1, _ => rfl | 2, _ => rfl | 3, _ => rfl | 4, _ => rfl | 5, _ => rfl | 6, _ => rfl | 7, _ => rfl)]
            refine x_pop dX10_coin_88 rfl ?_
            refine x_aload_n dX10_coin_89 rfl ?_
            refine y_getr dX10_coin_90 F_C_12 (fxo_64 hx) rfl (fxp_64_0 hx) ?_
            refine y_getr dX10_coin_93 F_C_110 (fxo_65 hx) rfl (fxp_65_1 hx) ?_
            refine x_iload dX10_coin_96 rfl ?_
            refine x_iconst (v := 1) dX10_coin_98 (by decide) ?_
            refine x_iload_n dX10_coin_99 rfl ?_
            refine x_callV (k2 := 0) (n2 := 0) dX10_coin_100 LV_C_85 (m_Table_put (r := n0) (q := 1) (tCoins.app hnL) (by omega) (by decide)) rfl rfl (fxo_68 hx) rfl (Nat.le_of_ble_eq_true rfl) (Nat.le_of_ble_eq_true rfl) (Nat.le_of_ble_eq_true rfl) (Nat.le_of_ble_eq_true rfl) ?_
            rintro _ _ ⟨rfl, rfl⟩
            rw [xup_row, va_up_at, apF_s (vs' := [k, v, 0, 0, 0, 0, 0, 0]) (by decide) (fun q hq => by match q, hq with | 0, _ => rfl | 1, _ => rfl | 2, _ => rfl | 3, _ => rfl | 4, _ => rfl | 5, _ => rfl | 6, _ => rfl | 7, _ => rfl)]
            refine x_pop dX10_coin_103 rfl ?_
            refine x_aload_n dX10_coin_104 rfl ?_
            refine y_getr dX10_coin_105 F_C_12 (fxo_64 hx) rfl (fxp_64_0 hx) ?_
            refine y_getr dX10_coin_108 F_C_110 (fxo_65 hx) rfl (fxp_65_1 hx) ?_
            refine x_iload dX10_coin_111 rfl ?_
            refine x_iconst (v := 2) dX10_coin_113 (by decide) ?_
            refine x_iload_n dX10_coin_114 rfl ?_
            refine x_callV (k2 := 0) (n2 := 0) dX10_coin_115 LV_C_85 (m_Table_put (r := n0) (q := 2) (tCoins.app hnL) (by omega) (by decide)) rfl rfl (fxo_68 hx) rfl (Nat.le_of_ble_eq_true rfl) (Nat.le_of_ble_eq_true rfl) (Nat.le_of_ble_eq_true rfl) (Nat.le_of_ble_eq_true rfl) ?_
            rintro _ _ ⟨rfl, rfl⟩
            rw [xup_row, va_up_at, apF_s (vs' := [k, v, b, 0, 0, 0, 0, 0]) (by decide) (fun q hq => by match q, hq with | 0, _ => rfl | 1, _ => rfl | 2, _ => rfl | 3, _ => rfl | 4, _ => rfl | 5, _ => rfl | 6, _ => rfl | 7, _ => rfl)]
            refine x_pop dX10_coin_118 rfl ?_
            refine x_aload_n dX10_coin_119 rfl ?_
            refine y_getr dX10_coin_120 F_C_12 (fxo_64 hx) rfl (fxp_64_0 hx) ?_
            refine y_getr dX10_coin_123 F_C_110 (fxo_65 hx) rfl (fxp_65_1 hx) ?_
            refine x_iload dX10_coin_126 rfl ?_
            refine x_iconst (v := 3) dX10_coin_128 (by decide) ?_
            refine x_iload dX10_coin_129 rfl ?_
            refine x_callV (k2 := 0) (n2 := 0) dX10_coin_131 LV_C_85 (m_Table_put (r := n0) (q := 3) (tCoins.app hnL) (by omega) (by decide)) rfl rfl (fxo_68 hx) rfl (Nat.le_of_ble_eq_true rfl) (Nat.le_of_ble_eq_true rfl) (Nat.le_of_ble_eq_true rfl) (Nat.le_of_ble_eq_true rfl) ?_
            rintro _ _ ⟨rfl, rfl⟩
            rw [xup_row, va_up_at, apF_s (vs' := [k, v, b, p, 0, 0, 0, 0]) (by decide) (fun q hq => by match q, hq with | 0, _ => rfl | 1, _ => rfl | 2, _ => rfl | 3, _ => rfl | 4, _ => rfl | 5, _ => rfl | 6, _ => rfl | 7, _ => rfl)]
            refine x_pop dX10_coin_134 rfl ?_
            refine x_iload dX10_coin_135 rfl ?_
            refine x_ireturn dX10_coin_137 rfl nb_int ?_
            have hs : s_coin s k v b p = upd (xZf (upd (upd (upd (upd s (10 + n0) k) (14 + n0) v) (18 + n0) b) (22 + n0) p) (26 + 4 * n0) 4) 0 (nI (n0 + 1)) := by unfold s_coin; rw [if_pos ⟨o_t c7, ⟨o_t c19, o_t c29, o_t c40⟩, by rw [e0]; exact hnm⟩, k0, e0, nI_1]
            have tv : ∀ j, s_coin s k v b p j = if j = 0 then nI (n0 + 1) else if 26 + 4 * n0 ≤ j ∧ j < 26 + 4 * n0 + 4 then 0 else if j = 22 + n0 then p else if j = 18 + n0 then b else if j = 14 + n0 then v else if j = 10 + n0 then k else s j := fun j => by rw [hs]; rfl
            have ht : cN (s_coin s k v b p) 0 = n0 + 1 := cN_of (by rw [tv, if_pos rfl]) (by omega)
            have hA : ∀ j, (j < 10 ∨ 42 ≤ j) → j ≠ 0 → (s_coin s k v b p) j = s j := fun j q0 q1 => by rw [tv, if_neg q1, if_neg (by omega), if_neg (by omega), if_neg (by omega), if_neg (by omega), if_neg (by omega)]
            obtain ⟨I1, hI1⟩ : ∃ I1, I1 = va_up (xup I 68 3 (nI (n0 + 1))) 69 (apF (I 69) n0 8 [k, v, b, p, 0, 0, 0, 0]) := ⟨_, rfl⟩
            have hF : xFrm [68, 69] I I1 := by rw [hI1]; exact xFrv (xFrs xFrm.rf)
            have hT : xTb sh P I1 68 69 8 4 (cN (s_coin s k v b p) 0) := by rw [ht, hI1]; exact tCoins.app hnL
            exact ⟨I1, by unfold a_coin; rw [if_pos (o_t c7), if_pos ⟨o_t c19, o_t c29, o_t c40⟩, if_neg (show ¬ s 0 = 4 by rw [e0]; exact hnm), e0], by rw [hI1], hW.mst hR (Or.inl ⟨hF 66 (by decide), hF 67 (by decide), (hA 7 (by omega) (by omega)), fun j _ _ => (hA j (by omega) (by omega))⟩) (Or.inr ⟨hT, (by
                rw [hI1]
                intro i hi
                rw [ht] at hi
                rw [va_up_at]
                by_cases hin2 : i = n0
                · rw [hin2]
                  refine ⟨?_, ?_, ?_, ?_, fun q hq => ?_⟩
                  · rw [apF_n (by decide), tv, if_neg (by omega), if_neg (by omega), if_neg (by omega), if_neg (by omega), if_neg (by omega), if_pos rfl]; rfl
                  · rw [apF_n (by decide), tv, if_neg (by omega), if_neg (by omega), if_neg (by omega), if_neg (by omega), if_pos rfl]; rfl
                  · rw [apF_n (by decide), tv, if_neg (by omega), if_neg (by omega), if_neg (by omega), if_pos rfl]; rfl
                  · rw [apF_n (by decide), tv, if_neg (by omega), if_neg (by omega), if_pos rfl]; rfl
                  · rw [apF_n (by omega), tv, if_neg (by omega), if_pos (by omega)]
                    match q, hq with
                    | 0, _ => rfl
                    | 1, _ => rfl
                    | 2, _ => rfl
                    | 3, _ => rfl
                · obtain ⟨z1, z2, z3, z4, z5⟩ := cCoins i (by omega)
                  refine ⟨?_, ?_, ?_, ?_, fun q hq => ?_⟩
                  · rw [apF_o (by omega) (by decide), tv, if_neg (by omega), if_neg (by omega), if_neg (by omega), if_neg (by omega), if_neg (by omega), if_neg (by omega)]; exact z1
                  · rw [apF_o (by omega) (by decide), tv, if_neg (by omega), if_neg (by omega), if_neg (by omega), if_neg (by omega), if_neg (by omega), if_neg (by omega)]; exact z2
                  · rw [apF_o (by omega) (by decide), tv, if_neg (by omega), if_neg (by omega), if_neg (by omega), if_neg (by omega), if_neg (by omega), if_neg (by omega)]; exact z3
                  · rw [apF_o (by omega) (by decide), tv, if_neg (by omega), if_neg (by omega), if_neg (by omega), if_neg (by omega), if_neg (by omega), if_neg (by omega)]; exact z4
                  · rw [apF_o (by omega) (by omega), tv, if_neg (by omega), if_neg (by omega), if_neg (by omega), if_neg (by omega), if_neg (by omega), if_neg (by omega)]; exact z5 q hq)⟩) (Or.inl ⟨hF 70 (by decide), hF 71 (by decide), (hA 1 (by omega) (by omega)), fun j _ _ => (hA j (by omega) (by omega))⟩) (Or.inl ⟨hF 72 (by decide), hF 73 (by decide), (hA 3 (by omega) (by omega)), fun j _ _ => (hA j (by omega) (by omega))⟩) (Or.inl ⟨hF 74 (by decide), hF 75 (by decide), (hA 4 (by omega) (by omega)), fun j _ _ => (hA j (by omega) (by omega))⟩) (Or.inl ⟨hF 76 (by decide), hF 77 (by decide), (hA 5 (by omega) (by omega)), fun j _ _ => (hA j (by omega) (by omega))⟩) (Or.inl ⟨hF 78 (by decide), hF 79 (by decide), (hA 6 (by omega) (by omega)), fun j _ _ => (hA j (by omega) (by omega))⟩) ((congrFun (hF 65 (by decide)) 7).trans (hW7.trans (hA 2 (by omega) (by omega)).symm)) ((congrFun (hF 65 (by decide)) 9).trans (hW9.trans (hA 9 (by omega) (by omega)).symm)) ⟨fun a ha => hF a (fun z => by simp only [List.mem_cons, List.not_mem_nil, or_false] at z; omega), (hA 8 (by omega) (by omega)), fun j hj => (hA j (by omega) (by omega))⟩, hF⟩
          · have hnm : nI n0 = 4 := by have h9 := b_t c56; rw [show n0 = 4 by omega]; rfl
            refine x_bipush (v := (-4)) dX10_coin_59 (by decide) ?_
            refine x_ireturn dX10_coin_61 rfl nb_int ?_
            exact ⟨I, by unfold a_coin; rw [if_pos (o_t c7), if_pos ⟨o_t c19, o_t c29, o_t c40⟩, if_pos (show s 0 = 4 by rw [e0]; exact hnm)], rfl, by unfold s_coin; rw [if_neg (fun z => z.2.2 (by rw [e0]; exact hnm))]; exact hW, xFrm.rf⟩
        · refine x_bipush (v := (-2)) dX10_coin_43 (by decide) ?_
          refine x_ireturn dX10_coin_45 rfl nb_int ?_
          first
          | (have h8 := o_f c19; exact ⟨I, by unfold a_coin; rw [if_pos (o_t c7), if_neg (fun y => h8 y.1)], rfl, by unfold s_coin; rw [if_neg (fun y => h8 y.2.1.1)]; exact hW, xFrm.rf⟩)
          | (have h8 := o_f c29; exact ⟨I, by unfold a_coin; rw [if_pos (o_t c7), if_neg (fun y => h8 y.2.1)], rfl, by unfold s_coin; rw [if_neg (fun y => h8 y.2.1.2.1)]; exact hW, xFrm.rf⟩)
          | (have h8 := o_f c40; exact ⟨I, by unfold a_coin; rw [if_pos (o_t c7), if_neg (fun y => h8 y.2.2)], rfl, by unfold s_coin; rw [if_neg (fun y => h8 y.2.1.2.2)]; exact hW, xFrm.rf⟩)
  · refine x_iconst (v := (-1)) dX10_coin_10 (by decide) ?_
    refine x_ireturn dX10_coin_11 rfl nb_int ?_
    exact ⟨I, by unfold a_coin; rw [if_neg (o_f c7)], rfl, by unfold s_coin; rw [if_neg (fun z => o_f c7 z.1)]; exact hW, xFrm.rf⟩

set_option maxHeartbeats 4000000 in
set_option maxRecDepth 100000 in
theorem m_C_buy {g : xG} {nx : Nat} {sh : Nat → Nat × Nat} {P : Nat → Nat → Option Nat} {I : Nat → Nat → Int32} (hx : xFx sh P) {s : Nat → Int32} (hW : xWN nx sh P I s) (hR : RI s) {p a b c d : Int32} : xMet g Y_C_buy 3 0 0 [.ref 64, .int p, .int a, .int b, .int c, .int d] (nx, sh, P, I) (fun r σ => ∃ I1 : Nat → Nat → Int32, r = some (.int (a_buy s p a b c d)) ∧ σ = (nx, sh, P, I1) ∧ xWN nx sh P I1 (s_buy s p a b c d) ∧ xFrm [72, 73] I I1) := by
  refine xMet.of [some (.ref 64), some (.int p), some (.int a), some (.int b), some (.int c), some (.int d), none] (by decide +kernel) (Nat.le_of_ble_eq_true rfl) rfl ?_
  obtain ⟨⟨tTape, tCoins, tWares, tBuys, tSlates, tPlans, tBooked⟩, ⟨cTape, cCoins, cWares, cBuys, cSlates, cPlans, cBooked⟩, hW7, hW9, hL⟩ := id hW
  obtain ⟨⟨n0, b0, e0⟩, ⟨n1, b1, e1⟩, ⟨n2, b2, e2⟩, ⟨n3, b3, e3⟩, ⟨n4, b4, e4⟩, ⟨n5, b5, e5⟩, ⟨n6, b6, e6⟩, ⟨n7, b7, e7⟩, ⟨n9, b9, e9⟩⟩ := hR.k
  have k7 : cN s 7 = n7 := cN_of e7 (by omega)
  rw [k7] at tTape cTape
  have k0 : cN s 0 = n0 := cN_of e0 (by omega)
  rw [k0] at tCoins cCoins
  have k1 : cN s 1 = n1 := cN_of e1 (by omega)
  rw [k1] at tWares cWares
  have k3 : cN s 3 = n3 := cN_of e3 (by omega)
  rw [k3] at tBuys cBuys
  have k4 : cN s 4 = n4 := cN_of e4 (by omega)
  rw [k4] at tSlates cSlates
  have k5 : cN s 5 = n5 := cN_of e5 (by omega)
  rw [k5] at tPlans cPlans
  have k6 : cN s 6 = n6 := cN_of e6 (by omega)
  rw [k6] at tBooked cBooked
  refine x_iload_n dX10_buy_0 rfl ?_
  refine x_iconst (v := (-1)) dX10_buy_1 (by decide) ?_
  refine x_icmp_ne (tgt := 17) dX10_buy_2 rfl (fun c2 => ?_) (fun c2 => ?_)
  · refine x_iload_n dX10_buy_17 rfl ?_
    refine x_iconst (v := 0) dX10_buy_18 (by decide) ?_
    refine x_bipush (v := 99) dX10_buy_19 (by decide) ?_
    refine x_callS (k2 := 0) (n2 := 0) dX10_buy_21 LS_C_71 m_C_isOutside rfl rfl (Nat.le_of_ble_eq_true rfl) (Nat.le_of_ble_eq_true rfl) (Nat.le_of_ble_eq_true rfl) (Nat.le_of_ble_eq_true rfl) ?_
    rintro _ _ ⟨rfl, rfl⟩
    refine x_if_ne (tgt := 65) dX10_buy_24 rfl (fun c24 => ?_) (fun c24 => ?_)
    · refine x_bipush (v := (-2)) dX10_buy_65 (by decide) ?_
      refine x_ireturn dX10_buy_67 rfl nb_int ?_
      first
      | (have h7 := o_f c24; have h8 : ¬ byB s p (mk4 a b c d) 4 = true := fun z => h7 ((by4 e0 b0).mp z).1; exact ⟨I, by unfold a_buy; rw [if_neg c2, if_neg h8], rfl, by unfold s_buy; rw [if_neg c2, if_neg (fun y => h8 y.1)]; exact hW, xFrm.rf⟩)
      | (have h7 := b_f c33; have h8 : ¬ byB s p (mk4 a b c d) 4 = true := fun z => h7 ((by4 e0 b0).mp z).2.1; exact ⟨I, by unfold a_buy; rw [if_neg c2, if_neg h8], rfl, by unfold s_buy; rw [if_neg c2, if_neg (fun y => h8 y.1)]; exact hW, xFrm.rf⟩)
      | (have h7 := b_f c42; have h8 : ¬ byB s p (mk4 a b c d) 4 = true := fun z => h7 ((by4 e0 b0).mp z).2.2.1; exact ⟨I, by unfold a_buy; rw [if_neg c2, if_neg h8], rfl, by unfold s_buy; rw [if_neg c2, if_neg (fun y => h8 y.1)]; exact hW, xFrm.rf⟩)
      | (have h7 := b_f c52; have h8 : ¬ byB s p (mk4 a b c d) 4 = true := fun z => h7 ((by4 e0 b0).mp z).2.2.2.1; exact ⟨I, by unfold a_buy; rw [if_neg c2, if_neg h8], rfl, by unfold s_buy; rw [if_neg c2, if_neg (fun y => h8 y.1)]; exact hW, xFrm.rf⟩)
      | (have h7 := b_f c62; have h8 : ¬ byB s p (mk4 a b c d) 4 = true := fun z => h7 ((by4 e0 b0).mp z).2.2.2.2; exact ⟨I, by unfold a_buy; rw [if_neg c2, if_neg h8], rfl, by unfold s_buy; rw [if_neg c2, if_neg (fun y => h8 y.1)]; exact hW, xFrm.rf⟩)
    · refine x_aload_n dX10_buy_27 rfl ?_
      refine x_iconst (v := 0) dX10_buy_28 (by decide) ?_
      refine x_iload_n dX10_buy_29 rfl ?_
      refine x_callV (k2 := 0) (n2 := 0) dX10_buy_30 LV_C_146 (m_C_isTaken hx hW hR (kq := 0) (by decide)) rfl rfl (fxo_64 hx) rfl (Nat.le_of_ble_eq_true rfl) (Nat.le_of_ble_eq_true rfl) (Nat.le_of_ble_eq_true rfl) (Nat.le_of_ble_eq_true rfl) ?_
      rintro _ _ ⟨rfl, rfl⟩
      rw [k0]
      refine x_if_eq (tgt := 65) dX10_buy_33 rfl (fun c33 => ?_) (fun c33 => ?_)
      · refine x_bipush (v := (-2)) dX10_buy_65 (by decide) ?_
        refine x_ireturn dX10_buy_67 rfl nb_int ?_
        first
        | (have h7 := o_f c24; have h8 : ¬ byB s p (mk4 a b c d) 4 = true := fun z => h7 ((by4 e0 b0).mp z).1; exact ⟨I, by unfold a_buy; rw [if_neg c2, if_neg h8], rfl, by unfold s_buy; rw [if_neg c2, if_neg (fun y => h8 y.1)]; exact hW, xFrm.rf⟩)
        | (have h7 := b_f c33; have h8 : ¬ byB s p (mk4 a b c d) 4 = true := fun z => h7 ((by4 e0 b0).mp z).2.1; exact ⟨I, by unfold a_buy; rw [if_neg c2, if_neg h8], rfl, by unfold s_buy; rw [if_neg c2, if_neg (fun y => h8 y.1)]; exact hW, xFrm.rf⟩)
        | (have h7 := b_f c42; have h8 : ¬ byB s p (mk4 a b c d) 4 = true := fun z => h7 ((by4 e0 b0).mp z).2.2.1; exact ⟨I, by unfold a_buy; rw [if_neg c2, if_neg h8], rfl, by unfold s_buy; rw [if_neg c2, if_neg (fun y => h8 y.1)]; exact hW, xFrm.rf⟩)
        | (have h7 := b_f c52; have h8 : ¬ byB s p (mk4 a b c d) 4 = true := fun z => h7 ((by4 e0 b0).mp z).2.2.2.1; exact ⟨I, by unfold a_buy; rw [if_neg c2, if_neg h8], rfl, by unfold s_buy; rw [if_neg c2, if_neg (fun y => h8 y.1)]; exact hW, xFrm.rf⟩)
        | (have h7 := b_f c62; have h8 : ¬ byB s p (mk4 a b c d) 4 = true := fun z => h7 ((by4 e0 b0).mp z).2.2.2.2; exact ⟨I, by unfold a_buy; rw [if_neg c2, if_neg h8], rfl, by unfold s_buy; rw [if_neg c2, if_neg (fun y => h8 y.1)]; exact hW, xFrm.rf⟩)
      · refine x_aload_n dX10_buy_36 rfl ?_
        refine x_iconst (v := 1) dX10_buy_37 (by decide) ?_
        refine x_iload_n dX10_buy_38 rfl ?_
        refine x_callV (k2 := 0) (n2 := 0) dX10_buy_39 LV_C_146 (m_C_isTaken hx hW hR (kq := 1) (by decide)) rfl rfl (fxo_64 hx) rfl (Nat.le_of_ble_eq_true rfl) (Nat.le_of_ble_eq_true rfl) (Nat.le_of_ble_eq_true rfl) (Nat.le_of_ble_eq_true rfl) ?_
        rintro _ _ ⟨rfl, rfl⟩
        rw [k0]
        refine x_if_eq (tgt := 65) dX10_buy_42 rfl (fun c42 => ?_) (fun c42 => ?_)
        · refine x_bipush (v := (-2)) dX10_buy_65 (by decide) ?_
          refine x_ireturn dX10_buy_67 rfl nb_int ?_
          first
          | (have h7 := o_f c24; have h8 : ¬ byB s p (mk4 a b c d) 4 = true := fun z => h7 ((by4 e0 b0).mp z).1; exact ⟨I, by unfold a_buy; rw [if_neg c2, if_neg h8], rfl, by unfold s_buy; rw [if_neg c2, if_neg (fun y => h8 y.1)]; exact hW, xFrm.rf⟩)
          | (have h7 := b_f c33; have h8 : ¬ byB s p (mk4 a b c d) 4 = true := fun z => h7 ((by4 e0 b0).mp z).2.1; exact ⟨I, by unfold a_buy; rw [if_neg c2, if_neg h8], rfl, by unfold s_buy; rw [if_neg c2, if_neg (fun y => h8 y.1)]; exact hW, xFrm.rf⟩)
          | (have h7 := b_f c42; have h8 : ¬ byB s p (mk4 a b c d) 4 = true := fun z => h7 ((by4 e0 b0).mp z).2.2.1; exact ⟨I, by unfold a_buy; rw [if_neg c2, if_neg h8], rfl, by unfold s_buy; rw [if_neg c2, if_neg (fun y => h8 y.1)]; exact hW, xFrm.rf⟩)
          | (have h7 := b_f c52; have h8 : ¬ byB s p (mk4 a b c d) 4 = true := fun z => h7 ((by4 e0 b0).mp z).2.2.2.1; exact ⟨I, by unfold a_buy; rw [if_neg c2, if_neg h8], rfl, by unfold s_buy; rw [if_neg c2, if_neg (fun y => h8 y.1)]; exact hW, xFrm.rf⟩)
          | (have h7 := b_f c62; have h8 : ¬ byB s p (mk4 a b c d) 4 = true := fun z => h7 ((by4 e0 b0).mp z).2.2.2.2; exact ⟨I, by unfold a_buy; rw [if_neg c2, if_neg h8], rfl, by unfold s_buy; rw [if_neg c2, if_neg (fun y => h8 y.1)]; exact hW, xFrm.rf⟩)
        · refine x_aload_n dX10_buy_45 rfl ?_
          refine x_iconst (v := 2) dX10_buy_46 (by decide) ?_
          refine x_iload dX10_buy_47 rfl ?_
          refine x_callV (k2 := 0) (n2 := 0) dX10_buy_49 LV_C_146 (m_C_isTaken hx hW hR (kq := 2) (by decide)) rfl rfl (fxo_64 hx) rfl (Nat.le_of_ble_eq_true rfl) (Nat.le_of_ble_eq_true rfl) (Nat.le_of_ble_eq_true rfl) (Nat.le_of_ble_eq_true rfl) ?_
          rintro _ _ ⟨rfl, rfl⟩
          rw [k0]
          refine x_if_eq (tgt := 65) dX10_buy_52 rfl (fun c52 => ?_) (fun c52 => ?_)
          · refine x_bipush (v := (-2)) dX10_buy_65 (by decide) ?_
            refine x_ireturn dX10_buy_67 rfl nb_int ?_
            first
            | (have h7 := o_f c24; have h8 : ¬ byB s p (mk4 a b c d) 4 = true := fun z => h7 ((by4 e0 b0).mp z).1; exact ⟨I, by unfold a_buy; rw [if_neg c2, if_neg h8], rfl, by unfold s_buy; rw [if_neg c2, if_neg (fun y => h8 y.1)]; exact hW, xFrm.rf⟩)
            | (have h7 := b_f c33; have h8 : ¬ byB s p (mk4 a b c d) 4 = true := fun z => h7 ((by4 e0 b0).mp z).2.1; exact ⟨I, by unfold a_buy; rw [if_neg c2, if_neg h8], rfl, by unfold s_buy; rw [if_neg c2, if_neg (fun y => h8 y.1)]; exact hW, xFrm.rf⟩)
            | (have h7 := b_f c42; have h8 : ¬ byB s p (mk4 a b c d) 4 = true := fun z => h7 ((by4 e0 b0).mp z).2.2.1; exact ⟨I, by unfold a_buy; rw [if_neg c2, if_neg h8], rfl, by unfold s_buy; rw [if_neg c2, if_neg (fun y => h8 y.1)]; exact hW, xFrm.rf⟩)
            | (have h7 := b_f c52; have h8 : ¬ byB s p (mk4 a b c d) 4 = true := fun z => h7 ((by4 e0 b0).mp z).2.2.2.1; exact ⟨I, by unfold a_buy; rw [if_neg c2, if_neg h8], rfl, by unfold s_buy; rw [if_neg c2, if_neg (fun y => h8 y.1)]; exact hW, xFrm.rf⟩)
            | (have h7 := b_f c62; have h8 : ¬ byB s p (mk4 a b c d) 4 = true := fun z => h7 ((by4 e0 b0).mp z).2.2.2.2; exact ⟨I, by unfold a_buy; rw [if_neg c2, if_neg h8], rfl, by unfold s_buy; rw [if_neg c2, if_neg (fun y => h8 y.1)]; exact hW, xFrm.rf⟩)
          · refine x_aload_n dX10_buy_55 rfl ?_
            refine x_iconst (v := 3) dX10_buy_56 (by decide) ?_
            refine x_iload dX10_buy_57 rfl ?_
            refine x_callV (k2 := 0) (n2 := 0) dX10_buy_59 LV_C_146 (m_C_isTaken hx hW hR (kq := 3) (by decide)) rfl rfl (fxo_64 hx) rfl (Nat.le_of_ble_eq_true rfl) (Nat.le_of_ble_eq_true rfl) (Nat.le_of_ble_eq_true rfl) (Nat.le_of_ble_eq_true rfl) ?_
            rintro _ _ ⟨rfl, rfl⟩
            rw [k0]
            refine x_if_ne (tgt := 68) dX10_buy_62 rfl (fun c62 => ?_) (fun c62 => ?_)
            · have t33 : TK n0 0 a := by have := b_t c33; exact this
              have t42 : TK n0 1 b := by have := b_t c42; exact this
              have t52 : TK n0 2 c := by have := b_t c52; exact this
              have t62 : TK n0 3 d := by have := b_t c62; exact this
              refine x_aload_n dX10_buy_68 rfl ?_
              refine y_getr dX10_buy_69 F_C_12 (fxo_64 hx) rfl (fxp_64_0 hx) ?_
              refine y_getr dX10_buy_72 F_C_143 (fxo_65 hx) rfl (fxp_65_3 hx) ?_
              refine x_callV (k2 := 0) (n2 := 0) dX10_buy_75 LV_C_75 (m_Table_isFull tBuys) rfl rfl (fxo_72 hx) rfl (Nat.le_of_ble_eq_true rfl) (Nat.le_of_ble_eq_true rfl) (Nat.le_of_ble_eq_true rfl) (Nat.le_of_ble_eq_true rfl) ?_
              rintro _ _ ⟨rfl, rfl⟩
              refine x_if_eq (tgt := 84) dX10_buy_78 rfl (fun c78 => ?_) (fun c78 => ?_)
              · have hnL : n3 < 6 := Nat.lt_of_not_le (b_f c78)
                have hnm : ¬ nI n3 = 6 := fun z => by have := (nI_eqI (b := 6) (by omega) (by decide)).mp z; omega
                refine x_aload_n dX10_buy_84 rfl ?_
                refine y_getr dX10_buy_85 F_C_12 (fxo_64 hx) rfl (fxp_64_0 hx) ?_
                refine y_getr dX10_buy_88 F_C_143 (fxo_65 hx) rfl (fxp_65_3 hx) ?_
                refine x_callV (k2 := 0) (n2 := 0) dX10_buy_91 LV_C_81 (m_Table_add tBuys hnL) rfl rfl (fxo_72 hx) rfl (Nat.le_of_ble_eq_true rfl) (Nat.le_of_ble_eq_true rfl) (Nat.le_of_ble_eq_true rfl) (Nat.le_of_ble_eq_true rfl) ?_
                rintro _ _ ⟨rfl, rfl⟩
                rw [apF_0 (vs := [0, 0, 0, 0, 0]) (fun q hq => by match q, hq with | 0, _ => rfl | 1, _ => rfl | 2, _ => rfl | 3, _ => rfl | 4, _ => rfl)]
                refine x_istore dX10_buy_94 (Nat.le_of_ble_eq_true rfl) ?_
                try simp only [xst, xst2, xclr, xset, xwide]
                refine x_aload_n dX10_buy_96 rfl ?_
                refine y_getr dX10_buy_97 F_C_12 (fxo_64 hx) rfl (fxp_64_0 hx) ?_
                refine y_getr dX10_buy_100 F_C_143 (fxo_65 hx) rfl (fxp_65_3 hx) ?_
                refine x_iload dX10_buy_103 rfl ?_
                refine x_iconst (v := 0) dX10_buy_105 (by decide) ?_
                refine x_iload_n dX10_buy_106 rfl ?_
                refine x_callV (k2 := 0) (n2 := 0) dX10_buy_107 LV_C_85 (m_Table_put (r := n3) (q := 0) (tBuys.app hnL) (by omega) (by decide)) rfl rfl (fxo_72 hx) rfl (Nat.le_of_ble_eq_true rfl) (Nat.le_of_ble_eq_true rfl) (Nat.le_of_ble_eq_true rfl) (Nat.le_of_ble_eq_true rfl) ?_
                rintro _ _ ⟨rfl, rfl⟩
                rw [xup_row, va_up_at, apF_s (vs' := [p, 0, 0, 0, 0]) (by decide) (fun q hq => by match q, hq with | 0, _ => rfl | 1, _ => rfl | 2, _ => rfl | 3, _ => rfl | 4, _ => rfl)]
                refine x_pop dX10_buy_110 rfl ?_
                refine x_aload_n dX10_buy_111 rfl ?_
                refine y_getr dX10_buy_112 F_C_12 (fxo_64 hx) rfl (fxp_64_0 hx) ?_
                refine y_getr dX10_buy_115 F_C_143 (fxo_65 hx) rfl (fxp_65_3 hx) ?_
                refine x_iload dX10_buy_118 rfl ?_
                refine x_iconst (v := 1) dX10_buy_120 (by decide) ?_
                refine x_iload_n dX10_buy_121 rfl ?_
                refine x_callV (k2 := 0) (n2 := 0) dX10_buy_122 LV_C_85 (m_Table_put (r := n3) (q := 1) (tBuys.app hnL) (by omega) (by decide)) rfl rfl (fxo_72 hx) rfl (Nat.le_of_ble_eq_true rfl) (Nat.le_of_ble_eq_true rfl) (Nat.le_of_ble_eq_true rfl) (Nat.le_of_ble_eq_true rfl) ?_
                rintro _ _ ⟨rfl, rfl⟩
                rw [xup_row, va_up_at, apF_s (vs' := [p, a, 0, 0, 0]) (by decide) (fun q hq => by match q, hq with | 0, _ => rfl | 1, _ => rfl | 2, _ => rfl | 3, _ => rfl | 4, _ => rfl)]
                refine x_pop dX10_buy_125 rfl ?_
                refine x_aload_n dX10_buy_126 rfl ?_
                refine y_getr dX10_buy_127 F_C_12 (fxo_64 hx) rfl (fxp_64_0 hx) ?_
                refine y_getr dX10_buy_130 F_C_143 (fxo_65 hx) rfl (fxp_65_3 hx) ?_
                refine x_iload dX10_buy_133 rfl ?_
                refine x_iconst (v := 2) dX10_buy_135 (by decide) ?_
                refine x_iload_n dX10_buy_136 rfl ?_
                refine x_callV (k2 := 0) (n2 := 0) dX10_buy_137 LV_C_85 (m_Table_put (r := n3) (q := 2) (tBuys.app hnL) (by omega) (by decide)) rfl rfl (fxo_72 hx) rfl (Nat.le_of_ble_eq_true rfl) (Nat.le_of_ble_eq_true rfl) (Nat.le_of_ble_eq_true rfl) (Nat.le_of_ble_eq_true rfl) ?_
                rintro _ _ ⟨rfl, rfl⟩
                rw [xup_row, va_up_at, apF_s (vs' := [p, a, b, 0, 0]) (by decide) (fun q hq => by match q, hq with | 0, _ => rfl | 1, _ => rfl | 2, _ => rfl | 3, _ => rfl | 4, _ => rfl)]
                refine x_pop dX10_buy_140 rfl ?_
                refine x_aload_n dX10_buy_141 rfl ?_
                refine y_getr dX10_buy_142 F_C_12 (fxo_64 hx) rfl (fxp_64_0 hx) ?_
                refine y_getr dX10_buy_145 F_C_143 (fxo_65 hx) rfl (fxp_65_3 hx) ?_
                refine x_iload dX10_buy_148 rfl ?_
                refine x_iconst (v := 3) dX10_buy_150 (by decide) ?_
                refine x_iload dX10_buy_151 rfl ?_
                refine x_callV (k2 := 0) (n2 := 0) dX10_buy_153 LV_C_85 (m_Table_put (r := n3) (q := 3) (tBuys.app hnL) (by omega) (by decide)) rfl rfl (fxo_72 hx) rfl (Nat.le_of_ble_eq_true rfl) (Nat.le_of_ble_eq_true rfl) (Nat.le_of_ble_eq_true rfl) (Nat.le_of_ble_eq_true rfl) ?_
                rintro _ _ ⟨rfl, rfl⟩
                rw [xup_row, va_up_at, apF_s (vs' := [p, a, b, c, 0]) (by decide) (fun q hq => by match q, hq with | 0, _ => rfl | 1, _ => rfl | 2, _ => rfl | 3, _ => rfl | 4, _ => rfl)]
                refine x_pop dX10_buy_156 rfl ?_
                refine x_aload_n dX10_buy_157 rfl ?_
                refine y_getr dX10_buy_158 F_C_12 (fxo_64 hx) rfl (fxp_64_0 hx) ?_
                refine y_getr dX10_buy_161 F_C_143 (fxo_65 hx) rfl (fxp_65_3 hx) ?_
                refine x_iload dX10_buy_164 rfl ?_
                refine x_iconst (v := 4) dX10_buy_166 (by decide) ?_
                refine x_iload dX10_buy_167 rfl ?_
                refine x_callV (k2 := 0) (n2 := 0) dX10_buy_169 LV_C_85 (m_Table_put (r := n3) (q := 4) (tBuys.app hnL) (by omega) (by decide)) rfl rfl (fxo_72 hx) rfl (Nat.le_of_ble_eq_true rfl) (Nat.le_of_ble_eq_true rfl) (Nat.le_of_ble_eq_true rfl) (Nat.le_of_ble_eq_true rfl) ?_
                rintro _ _ ⟨rfl, rfl⟩
                rw [xup_row, va_up_at, apF_s (vs' := [p, a, b, c, d]) (by decide) (fun q hq => by match q, hq with | 0, _ => rfl | 1, _ => rfl | 2, _ => rfl | 3, _ => rfl | 4, _ => rfl)]
                refine x_pop dX10_buy_172 rfl ?_
                refine x_aload_n dX10_buy_173 rfl ?_
                refine y_getr dX10_buy_174 F_C_12 (fxo_64 hx) rfl (fxp_64_0 hx) ?_
                refine y_getr dX10_buy_177 F_C_143 (fxo_65 hx) rfl (fxp_65_3 hx) ?_
                refine x_callV (k2 := 0) (n2 := 0) dX10_buy_180 LV_C_89 (m_Table_rows (tBuys.app hnL)) rfl rfl (fxo_72 hx) rfl (Nat.le_of_ble_eq_true rfl) (Nat.le_of_ble_eq_true rfl) (Nat.le_of_ble_eq_true rfl) (Nat.le_of_ble_eq_true rfl) ?_
                rintro _ _ ⟨rfl, rfl⟩
                refine x_ireturn dX10_buy_183 rfl nb_int ?_
                have hs : s_buy s p a b c d = upd (upd (upd (upd (upd (upd s (47 + n3) p) (53 + 4 * n3) a) (53 + 4 * n3 + 1) b) (53 + 4 * n3 + 2) c) (53 + 4 * n3 + 3) d) 3 (nI (n3 + 1)) := by unfold s_buy; rw [if_neg c2, if_pos ⟨((by4 e0 b0).mpr ⟨o_t c24, t33, t42, t52, t62⟩), by rw [e3]; exact hnm⟩, k3, e3, nI_1, Nat.mod_eq_of_lt hnL]
                have tv : ∀ j, s_buy s p a b c d j = if j = 3 then nI (n3 + 1) else if j = 53 + 4 * n3 + 3 then d else if j = 53 + 4 * n3 + 2 then c else if j = 53 + 4 * n3 + 1 then b else if j = 53 + 4 * n3 then a else if j = 47 + n3 then p else s j := fun j => by rw [hs]; rfl
                have ht : cN (s_buy s p a b c d) 3 = n3 + 1 := cN_of (by rw [tv, if_pos rfl]) (by omega)
                have hA : ∀ j, (j < 47 ∨ 77 ≤ j) → j ≠ 3 → (s_buy s p a b c d) j = s j := fun j q0 q1 => by rw [tv, if_neg q1, if_neg (by omega), if_neg (by omega), if_neg (by omega), if_neg (by omega), if_neg (by omega)]
                obtain ⟨I1, hI1⟩ : ∃ I1, I1 = va_up (xup I 72 3 (nI (n3 + 1))) 73 (apF (I 73) n3 5 [p, a, b, c, d]) := ⟨_, rfl⟩
                have hF : xFrm [72, 73] I I1 := by rw [hI1]; exact xFrv (xFrs xFrm.rf)
                have hT : xTb sh P I1 72 73 5 6 (cN (s_buy s p a b c d) 3) := by rw [ht, hI1]; exact tBuys.app hnL
                exact ⟨I1, by unfold a_buy; rw [if_neg c2, if_pos ((by4 e0 b0).mpr ⟨o_t c24, t33, t42, t52, t62⟩), if_neg (show ¬ s 3 = 6 by rw [e3]; exact hnm), e3, nI_1], by rw [hI1], hW.mst hR (Or.inl ⟨hF 66 (by decide), hF 67 (by decide), (hA 7 (by omega) (by omega)), fun j _ _ => (hA j (by omega) (by omega))⟩) (Or.inl ⟨hF 68 (by decide), hF 69 (by decide), (hA 0 (by omega) (by omega)), fun j _ _ => (hA j (by omega) (by omega))⟩) (Or.inl ⟨hF 70 (by decide), hF 71 (by decide), (hA 1 (by omega) (by omega)), fun j _ _ => (hA j (by omega) (by omega))⟩) (Or.inr ⟨hT, (by
                    rw [hI1]
                    intro i hi
                    rw [ht] at hi
                    rw [va_up_at]
                    by_cases hin2 : i = n3
                    · rw [hin2]
                      refine ⟨?_, fun q hq => ?_⟩
                      · rw [apF_n (by decide), tv, if_neg (by omega), if_neg (by omega), if_neg (by omega), if_neg (by omega), if_neg (by omega), if_pos rfl]; rfl
                      · match q, hq with
                        | 0, _ => rw [apF_n (by omega), tv, if_neg (by omega), if_neg (by omega), if_neg (by omega), if_neg (by omega), if_pos (by omega)]; rfl
                        | 1, _ => rw [apF_n (by omega), tv, if_neg (by omega), if_neg (by omega), if_neg (by omega), if_pos (by omega)]; rfl
                        | 2, _ => rw [apF_n (by omega), tv, if_neg (by omega), if_neg (by omega), if_pos (by omega)]; rfl
                        | 3, _ => rw [apF_n (by omega), tv, if_neg (by omega), if_pos (by omega)]; rfl
                    · obtain ⟨z1, z2⟩ := cBuys i (by omega)
                      refine ⟨?_, fun q hq => ?_⟩
                      · rw [apF_o (by omega) (by decide), tv, if_neg (by omega), if_neg (by omega), if_neg (by omega), if_neg (by omega), if_neg (by omega), if_neg (by omega)]; exact z1
                      · rw [apF_o (by omega) (by omega), tv, if_neg (by omega), if_neg (by omega), if_neg (by omega), if_neg (by omega), if_neg (by omega), if_neg (by omega)]; exact z2 q hq)⟩) (Or.inl ⟨hF 74 (by decide), hF 75 (by decide), (hA 4 (by omega) (by omega)), fun j _ _ => (hA j (by omega) (by omega))⟩) (Or.inl ⟨hF 76 (by decide), hF 77 (by decide), (hA 5 (by omega) (by omega)), fun j _ _ => (hA j (by omega) (by omega))⟩) (Or.inl ⟨hF 78 (by decide), hF 79 (by decide), (hA 6 (by omega) (by omega)), fun j _ _ => (hA j (by omega) (by omega))⟩) ((congrFun (hF 65 (by decide)) 7).trans (hW7.trans (hA 2 (by omega) (by omega)).symm)) ((congrFun (hF 65 (by decide)) 9).trans (hW9.trans (hA 9 (by omega) (by omega)).symm)) ⟨fun a ha => hF a (fun z => by simp only [List.mem_cons, List.not_mem_nil, or_false] at z; omega), (hA 8 (by omega) (by omega)), fun j hj => (hA j (by omega) (by omega))⟩, hF⟩
              · have hnm : nI n3 = 6 := by have h9 := b_t c78; rw [show n3 = 6 by omega]; rfl
                refine x_bipush (v := (-4)) dX10_buy_81 (by decide) ?_
                refine x_ireturn dX10_buy_83 rfl nb_int ?_
                exact ⟨I, by unfold a_buy; rw [if_neg c2, if_pos ((by4 e0 b0).mpr ⟨o_t c24, t33, t42, t52, t62⟩), if_pos (show s 3 = 6 by rw [e3]; exact hnm)], rfl, by unfold s_buy; rw [if_neg c2, if_neg (fun z => z.2 (by rw [e3]; exact hnm))]; exact hW, xFrm.rf⟩
            · refine x_bipush (v := (-2)) dX10_buy_65 (by decide) ?_
              refine x_ireturn dX10_buy_67 rfl nb_int ?_
              first
              | (have h7 := o_f c24; have h8 : ¬ byB s p (mk4 a b c d) 4 = true := fun z => h7 ((by4 e0 b0).mp z).1; exact ⟨I, by unfold a_buy; rw [if_neg c2, if_neg h8], rfl, by unfold s_buy; rw [if_neg c2, if_neg (fun y => h8 y.1)]; exact hW, xFrm.rf⟩)
              | (have h7 := b_f c33; have h8 : ¬ byB s p (mk4 a b c d) 4 = true := fun z => h7 ((by4 e0 b0).mp z).2.1; exact ⟨I, by unfold a_buy; rw [if_neg c2, if_neg h8], rfl, by unfold s_buy; rw [if_neg c2, if_neg (fun y => h8 y.1)]; exact hW, xFrm.rf⟩)
              | (have h7 := b_f c42; have h8 : ¬ byB s p (mk4 a b c d) 4 = true := fun z => h7 ((by4 e0 b0).mp z).2.2.1; exact ⟨I, by unfold a_buy; rw [if_neg c2, if_neg h8], rfl, by unfold s_buy; rw [if_neg c2, if_neg (fun y => h8 y.1)]; exact hW, xFrm.rf⟩)
              | (have h7 := b_f c52; have h8 : ¬ byB s p (mk4 a b c d) 4 = true := fun z => h7 ((by4 e0 b0).mp z).2.2.2.1; exact ⟨I, by unfold a_buy; rw [if_neg c2, if_neg h8], rfl, by unfold s_buy; rw [if_neg c2, if_neg (fun y => h8 y.1)]; exact hW, xFrm.rf⟩)
              | (have h7 := b_f c62; have h8 : ¬ byB s p (mk4 a b c d) 4 = true := fun z => h7 ((by4 e0 b0).mp z).2.2.2.2; exact ⟨I, by unfold a_buy; rw [if_neg c2, if_neg h8], rfl, by unfold s_buy; rw [if_neg c2, if_neg (fun y => h8 y.1)]; exact hW, xFrm.rf⟩)
  · refine x_aload_n dX10_buy_5 rfl ?_
    refine y_getr dX10_buy_6 F_C_12 (fxo_64 hx) rfl (fxp_64_0 hx) ?_
    refine y_getr dX10_buy_9 F_C_143 (fxo_65 hx) rfl (fxp_65_3 hx) ?_
    refine x_callV (k2 := 0) (n2 := 0) dX10_buy_12 LV_C_100 (m_Table_clear tBuys) rfl rfl (fxo_72 hx) rfl (Nat.le_of_ble_eq_true rfl) (Nat.le_of_ble_eq_true rfl) (Nat.le_of_ble_eq_true rfl) (Nat.le_of_ble_eq_true rfl) ?_
    rintro _ _ ⟨rfl, rfl⟩
    refine x_iconst (v := 0) dX10_buy_15 (by decide) ?_
    refine x_ireturn dX10_buy_16 rfl nb_int ?_
    have hs : s_buy s p a b c d = upd s 3 0 := by unfold s_buy; rw [if_pos c2]
    have ht : cN (s_buy s p a b c d) 3 = 0 := cN_of (n := 0) (by rw [hs]; exact upd_e) (by omega)
    have hA : ∀ j, j ≠ 3 → (s_buy s p a b c d) j = s j := fun j q0 => by rw [hs, upd_n q0]
    obtain ⟨I1, hI1⟩ : ∃ I1, I1 = xup I 72 3 0 := ⟨_, rfl⟩
    have hF : xFrm [72] I I1 := by rw [hI1]; exact xFrs xFrm.rf
    have hT : xTb sh P I1 72 73 5 6 (cN (s_buy s p a b c d) 3) := by rw [ht, hI1]; exact tBuys.rows (m := 0) (Nat.zero_le _)
    exact ⟨I1, by unfold a_buy; rw [if_pos c2], by rw [hI1], hW.mst hR (Or.inl ⟨hF 66 (by decide), hF 67 (by decide), (hA 7 (by omega)), fun j _ _ => (hA j (by omega))⟩) (Or.inl ⟨hF 68 (by decide), hF 69 (by decide), (hA 0 (by omega)), fun j _ _ => (hA j (by omega))⟩) (Or.inl ⟨hF 70 (by decide), hF 71 (by decide), (hA 1 (by omega)), fun j _ _ => (hA j (by omega))⟩) (Or.inr ⟨hT, (fun i hi => by rw [ht] at hi; exact absurd hi (Nat.not_lt_zero _))⟩) (Or.inl ⟨hF 74 (by decide), hF 75 (by decide), (hA 4 (by omega)), fun j _ _ => (hA j (by omega))⟩) (Or.inl ⟨hF 76 (by decide), hF 77 (by decide), (hA 5 (by omega)), fun j _ _ => (hA j (by omega))⟩) (Or.inl ⟨hF 78 (by decide), hF 79 (by decide), (hA 6 (by omega)), fun j _ _ => (hA j (by omega))⟩) ((congrFun (hF 65 (by decide)) 7).trans (hW7.trans (hA 2 (by omega)).symm)) ((congrFun (hF 65 (by decide)) 9).trans (hW9.trans (hA 9 (by omega)).symm)) ⟨fun a ha => hF a (fun z => by simp only [List.mem_cons, List.not_mem_nil, or_false] at z; omega), (hA 8 (by omega)), fun j hj => (hA j (by omega))⟩, hF.mono⟩
