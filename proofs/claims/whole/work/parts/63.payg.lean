/-! the class: rows of paying gone through -/
set_option maxHeartbeats 4000000 in
set_option maxRecDepth 100000 in
theorem m_Payer_fewest {g : xG} {nx : Nat} {sh : Nat → Nat × Nat} {P : Nat → Nat → Option Nat} {I : Nat → Nat → Int32} (hx : xFx sh P) {s : Nat → Int32} (hW : xWN nx sh P I s) (hR : RI s) {p : Int32} {back : Nat} (hbk : back ≤ 3) {pu : Nat → Nat} (hpy : xPy I s pu) : xMet g Y_Payer_fewest 2 0 0 [.ref 109, .int p, .int (nI back)] (nx, sh, P, I) (fun r σ => ∃ I1 : Nat → Nat → Int32, r = some (.int (fwS (pwV s pu) (pyV (cN s 0) back pu) p (I 116) (sfx (pyLn (cN s 0) back pu) 4 0)).1) ∧ σ = (nx, sh, P, I1) ∧ xFrm [113, 114, 115, 116] I I1 ∧ I1 116 = (fwS (pwV s pu) (pyV (cN s 0) back pu) p (I 116) (sfx (pyLn (cN s 0) back pu) 4 0)).2) := by
  refine xMet.of [some (.ref 109), some (.int p), some (.int (nI back)), none, none, none] (by decide +kernel) (Nat.le_of_ble_eq_true rfl) rfl ?_
  refine x_bipush (v := (-5)) dX5_fewest_0 (by decide) ?_
  refine x_istore_n dX5_fewest_2 (Nat.le_of_ble_eq_true rfl) ?_
  try simp only [xst, xst2, xclr, xset, xwide]
  refine x_aload_n dX5_fewest_3 rfl ?_
  refine x_iload_n dX5_fewest_4 rfl ?_
  refine x_callV (k2 := 0) (n2 := 0) dX5_fewest_5 LV_Payer_73 (m_Payer_start hx hW hR hbk (fun c hc => ⟨(hpy c hc).1, (hpy c hc).2.1⟩)) rfl rfl (fxo_109 hx) rfl (Nat.le_of_ble_eq_true rfl) (Nat.le_of_ble_eq_true rfl) (Nat.le_of_ble_eq_true rfl) (Nat.le_of_ble_eq_true rfl) ?_
  rintro _ _ ⟨I1, rfl, rfl, hF1, hb1, hr1⟩
  have hN9 := py_n (n := cN s 0) (back := back) (pu := pu) hbk (fun c hc => (hpy c hc).2.1)
  refine x_istore dX5_fewest_8 (Nat.le_of_ble_eq_true rfl) ?_
  try simp only [xst, xst2, xclr, xset, xwide]
  refine x_iconst (v := 0) dX5_fewest_10 (by decide) ?_
  refine x_istore dX5_fewest_11 (Nat.le_of_ble_eq_true rfl) ?_
  try simp only [xst, xst2, xclr, xset, xwide]
  have K13 : ∀ (fuel : Nat) (i : Nat) (I2 : Nat → Nat → Int32) (hi : i ≤ (sfx (pyLn (cN s 0) back pu) 4 0)) (hF : xFrm [113, 114, 115, 116] I I2) (hb : ∀ c, c < 4 → I2 113 c = pyB (cN s 0) back c ∧ I2 114 c = nI (pu c)) (hr : xRwAt (I2 113) (pyLn (cN s 0) back pu) 4 i (I2 115)) (hbs : I2 116 = (fwS (pwV s pu) (pyV (cN s 0) back pu) p (I 116) i).2), (sfx (pyLn (cN s 0) back pu) 4 0) - i < fuel → xX g Y_Payer_fewest 2 0 0 (fun r σ => ∃ I1 : Nat → Nat → Int32, r = some (.int (fwS (pwV s pu) (pyV (cN s 0) back pu) p (I 116) (sfx (pyLn (cN s 0) back pu) 4 0)).1) ∧ σ = (nx, sh, P, I1) ∧ xFrm [113, 114, 115, 116] I I1 ∧ I1 116 = (fwS (pwV s pu) (pyV (cN s 0) back pu) p (I 116) (sfx (pyLn (cN s 0) back pu) 4 0)).2) 13 [some (.ref 109), some (.int p), some (.int (nI back)), some (.int (fwS (pwV s pu) (pyV (cN s 0) back pu) p (I 116) i).1), some (.int (nI (sfx (pyLn (cN s 0) back pu) 4 0))), some (.int (nI i))] [] (nx, sh, P, I2) := by
    intro fuel
    induction fuel with
    | zero => intro i I2 hi hF hb hr hbs hm; exact absurd hm (Nat.not_lt_zero _)
    | succ fuel ih13 =>
      intro i I2 hi hF hb hr hbs hm
      have hat := py_at hb hr
      have e111 : ∀ j, j < 4 → I2 111 j = pwV s pu j := fun j hj => by rw [hF 111 (by decide)]; exact (hpy j hj).2.2
      have hsm : xSm (I2 115) (I2 111) 0 4 = smV (pwV s pu) ((pyV (cN s 0) back pu) i) := xSm_c 4 (fun j hj => by rw [Nat.zero_add]; exact hat j hj) e111
      have hsz : xSz (I2 115) 4 = xSz ((pyV (cN s 0) back pu) i) 4 := xSz_c 4 hat
      have hlh := py_lh hbk hb (fun c hc => (hpy c hc).2.1)
      refine x_iload dX5_fewest_13 rfl ?_
      refine x_iload dX5_fewest_15 rfl ?_
      refine x_icmp_ge (tgt := 84) dX5_fewest_17 rfl (fun c17 => ?_) (fun c17 => ?_)
      · have hie : i = (sfx (pyLn (cN s 0) back pu) 4 0) := cge_t (by omega) hi c17
        refine x_iload_n dX5_fewest_84 rfl ?_
        refine x_ireturn dX5_fewest_85 rfl nb_int ?_
        subst hie
        exact ⟨I2, rfl, rfl, hF, hbs⟩
      · have him : i < (sfx (pyLn (cN s 0) back pu) 4 0) := cge_f (by omega) hi c17
        have J71 : ∀ (I3 : Nat → Nat → Int32) (fw : Int32) (hF3 : xFrm [113, 114, 115, 116] I I3) (h3 : I3 113 = I2 113 ∧ I3 114 = I2 114 ∧ I3 115 = I2 115) (hfw : fw = (fwS (pwV s pu) (pyV (cN s 0) back pu) p (I 116) (i + 1)).1) (hbs : I3 116 = (fwS (pwV s pu) (pyV (cN s 0) back pu) p (I 116) (i + 1)).2), xX g Y_Payer_fewest 2 0 0 (fun r σ => ∃ I1 : Nat → Nat → Int32, r = some (.int (fwS (pwV s pu) (pyV (cN s 0) back pu) p (I 116) (sfx (pyLn (cN s 0) back pu) 4 0)).1) ∧ σ = (nx, sh, P, I1) ∧ xFrm [113, 114, 115, 116] I I1 ∧ I1 116 = (fwS (pwV s pu) (pyV (cN s 0) back pu) p (I 116) (sfx (pyLn (cN s 0) back pu) 4 0)).2) 71 [some (.ref 109), some (.int p), some (.int (nI back)), some (.int fw), some (.int (nI (sfx (pyLn (cN s 0) back pu) 4 0))), some (.int (nI i))] [] (nx, sh, P, I3) := by
          intro I3 fw hF3 h3 hfw hbs
          subst hfw
          refine x_aload_n dX5_fewest_71 rfl ?_
          refine y_getr dX5_fewest_72 F_Payer_23 (fxo_109 hx) rfl (fxp_109_3 hx) ?_
          refine x_callV (k2 := 0) (n2 := 0) dX5_fewest_75 LV_Payer_87 (m_Rows_step (I := I3) (xrP hx)) rfl rfl (fxo_112 hx) rfl (Nat.le_of_ble_eq_true rfl) (Nat.le_of_ble_eq_true rfl) (Nat.le_of_ble_eq_true rfl) (Nat.le_of_ble_eq_true rfl) ?_
          rintro _ _ ⟨rfl, rfl⟩
          obtain ⟨z1, z2, z3⟩ := h3
          have hb3 : ∀ c, c < 4 → I3 113 c = pyB (cN s 0) back c ∧ I3 114 c = nI (pu c) := fun c hc => by rw [z1, z2]; exact hb c hc
          have hr3 : xRwAt (I3 113) (pyLn (cN s 0) back pu) 4 i (I3 115) := by rw [z1, z3]; exact hr
          have hst := xRwAt.st (py_lh hbk hb3 (fun c hc => (hpy c hc).2.1)) hr3
          refine x_iinc (v := (nI (i + 1))) dX5_fewest_78 rfl (nI_1 _) (Nat.le_of_ble_eq_true rfl) ?_
          try simp only [xst, xst2, xclr, xset, xwide]
          refine x_goto (tgt := 13) dX5_fewest_81 rfl ?_
          exact ih13 (i + 1) _ (by omega) (xFrv hF3) (fun c hc => by rw [va_up_no (by decide), va_up_no (by decide)]; exact hb3 c hc) (by rw [va_up_no (by decide), va_up_at]; exact hst) (by rw [va_up_no (by decide)]; exact hbs) (by omega)
        refine x_aload_n dX5_fewest_20 rfl ?_
        refine y_getr dX5_fewest_21 F_Payer_23 (fxo_109 hx) rfl (fxp_109_3 hx) ?_
        refine x_aload_n dX5_fewest_24 rfl ?_
        refine y_getr dX5_fewest_25 F_Payer_15 (fxo_109 hx) rfl (fxp_109_2 hx) ?_
        refine x_callV (k2 := 0) (n2 := 0) dX5_fewest_28 LV_Payer_76 (m_Rows_sum (I := I2) (xrP hx) (fxk_111 hx)) rfl rfl (fxo_112 hx) rfl (Nat.le_of_ble_eq_true rfl) (Nat.le_of_ble_eq_true rfl) (Nat.le_of_ble_eq_true rfl) (Nat.le_of_ble_eq_true rfl) ?_
        rintro _ _ ⟨rfl, rfl⟩
        rw [hsm]
        refine x_iload_n dX5_fewest_31 rfl ?_
        refine x_icmp_ne (tgt := 71) dX5_fewest_32 rfl (fun c32 => ?_) (fun c32 => ?_)
        · skip
          exact J71 _ _ hF ⟨rfl, rfl, rfl⟩ (by rw [fwS_s, if_neg (fun y => c32 y.1)]) (by rw [fwS_s, if_neg (fun y => c32 y.1)]; exact hbs)
        · refine x_iload_n dX5_fewest_35 rfl ?_
          refine x_bipush (v := (-5)) dX5_fewest_36 (by decide) ?_
          refine x_icmp_eq (tgt := 52) dX5_fewest_38 rfl (fun c38 => ?_) (fun c38 => ?_)
          · have hyes : smV (pwV s pu) ((pyV (cN s 0) back pu) i) = p ∧ ((fwS (pwV s pu) (pyV (cN s 0) back pu) p (I 116) i).1 = -5 ∨ xSz ((pyV (cN s 0) back pu) i) 4 < (fwS (pwV s pu) (pyV (cN s 0) back pu) p (I 116) i).1) := ⟨c32, Or.inl c38⟩
            refine x_aload_n dX5_fewest_52 rfl ?_
            refine y_getr dX5_fewest_53 F_Payer_23 (fxo_109 hx) rfl (fxp_109_3 hx) ?_
            refine x_callV (k2 := 0) (n2 := 0) dX5_fewest_56 LV_Payer_80 (m_Rows_size (I := I2) (xrP hx)) rfl rfl (fxo_112 hx) rfl (Nat.le_of_ble_eq_true rfl) (Nat.le_of_ble_eq_true rfl) (Nat.le_of_ble_eq_true rfl) (Nat.le_of_ble_eq_true rfl) ?_
            rintro _ _ ⟨rfl, rfl⟩
            rw [hsz]
            refine x_istore_n dX5_fewest_59 (Nat.le_of_ble_eq_true rfl) ?_
            try simp only [xst, xst2, xclr, xset, xwide]
            refine x_aload_n dX5_fewest_60 rfl ?_
            refine y_getr dX5_fewest_61 F_Payer_23 (fxo_109 hx) rfl (fxp_109_3 hx) ?_
            refine x_aload_n dX5_fewest_64 rfl ?_
            refine y_getr dX5_fewest_65 F_Payer_27 (fxo_109 hx) rfl (fxp_109_4 hx) ?_
            refine x_callV (k2 := 0) (n2 := 0) dX5_fewest_68 LV_Payer_83 (m_Rows_copyInto (I := I2) (xrP hx) (fxk_116 hx)) rfl rfl (fxo_112 hx) rfl (Nat.le_of_ble_eq_true rfl) (Nat.le_of_ble_eq_true rfl) (Nat.le_of_ble_eq_true rfl) (Nat.le_of_ble_eq_true rfl) ?_
            rintro _ _ ⟨rfl, rfl⟩
            exact J71 _ _ (xFrv hF) ⟨va_up_no (by decide), va_up_no (by decide), va_up_no (by decide)⟩ (by rw [fwS_s, if_pos hyes]) (by rw [fwS_s, if_pos hyes, va_up_at, hbs]; exact xTk_c hat)
          · refine x_aload_n dX5_fewest_41 rfl ?_
            refine y_getr dX5_fewest_42 F_Payer_23 (fxo_109 hx) rfl (fxp_109_3 hx) ?_
            refine x_callV (k2 := 0) (n2 := 0) dX5_fewest_45 LV_Payer_80 (m_Rows_size (I := I2) (xrP hx)) rfl rfl (fxo_112 hx) rfl (Nat.le_of_ble_eq_true rfl) (Nat.le_of_ble_eq_true rfl) (Nat.le_of_ble_eq_true rfl) (Nat.le_of_ble_eq_true rfl) ?_
            rintro _ _ ⟨rfl, rfl⟩
            rw [hsz]
            refine x_iload_n dX5_fewest_48 rfl ?_
            refine x_icmp_ge (tgt := 71) dX5_fewest_49 rfl (fun c49 => ?_) (fun c49 => ?_)
            · skip
              exact J71 _ _ hF ⟨rfl, rfl, rfl⟩ (by rw [fwS_s, if_neg (fun y => y.2.elim c38 (Int32.not_lt.mpr c49))]) (by rw [fwS_s, if_neg (fun y => y.2.elim c38 (Int32.not_lt.mpr c49))]; exact hbs)
            · have hyes : smV (pwV s pu) ((pyV (cN s 0) back pu) i) = p ∧ ((fwS (pwV s pu) (pyV (cN s 0) back pu) p (I 116) i).1 = -5 ∨ xSz ((pyV (cN s 0) back pu) i) 4 < (fwS (pwV s pu) (pyV (cN s 0) back pu) p (I 116) i).1) := ⟨c32, Or.inr (Int32.not_le.mp c49)⟩
              refine x_aload_n dX5_fewest_52 rfl ?_
              refine y_getr dX5_fewest_53 F_Payer_23 (fxo_109 hx) rfl (fxp_109_3 hx) ?_
              refine x_callV (k2 := 0) (n2 := 0) dX5_fewest_56 LV_Payer_80 (m_Rows_size (I := I2) (xrP hx)) rfl rfl (fxo_112 hx) rfl (Nat.le_of_ble_eq_true rfl) (Nat.le_of_ble_eq_true rfl) (Nat.le_of_ble_eq_true rfl) (Nat.le_of_ble_eq_true rfl) ?_
              rintro _ _ ⟨rfl, rfl⟩
              rw [hsz]
              refine x_istore_n dX5_fewest_59 (Nat.le_of_ble_eq_true rfl) ?_
              try simp only [xst, xst2, xclr, xset, xwide]
              refine x_aload_n dX5_fewest_60 rfl ?_
              refine y_getr dX5_fewest_61 F_Payer_23 (fxo_109 hx) rfl (fxp_109_3 hx) ?_
              refine x_aload_n dX5_fewest_64 rfl ?_
              refine y_getr dX5_fewest_65 F_Payer_27 (fxo_109 hx) rfl (fxp_109_4 hx) ?_
              refine x_callV (k2 := 0) (n2 := 0) dX5_fewest_68 LV_Payer_83 (m_Rows_copyInto (I := I2) (xrP hx) (fxk_116 hx)) rfl rfl (fxo_112 hx) rfl (Nat.le_of_ble_eq_true rfl) (Nat.le_of_ble_eq_true rfl) (Nat.le_of_ble_eq_true rfl) (Nat.le_of_ble_eq_true rfl) ?_
              rintro _ _ ⟨rfl, rfl⟩
              exact J71 _ _ (xFrv hF) ⟨va_up_no (by decide), va_up_no (by decide), va_up_no (by decide)⟩ (by rw [fwS_s, if_pos hyes]) (by rw [fwS_s, if_pos hyes, va_up_at, hbs]; exact xTk_c hat)
  exact K13 _ 0 I1 (Nat.zero_le _) hF1.mono hb1 hr1 (hF1 116 (by decide)) (Nat.lt_succ_self _)

set_option maxHeartbeats 4000000 in
set_option maxRecDepth 100000 in
theorem m_Payer_howManyWays {g : xG} {nx : Nat} {sh : Nat → Nat × Nat} {P : Nat → Nat → Option Nat} {I : Nat → Nat → Int32} (hx : xFx sh P) {s : Nat → Int32} (hW : xWN nx sh P I s) (hR : RI s) {p : Int32} {pu : Nat → Nat} (hpy : xPy I s pu) : xMet g Y_Payer_howManyWays 2 0 0 [.ref 109, .int p] (nx, sh, P, I) (fun r σ => ∃ I1 : Nat → Nat → Int32, r = some (.int (wyS (pwV s pu) (pyV (cN s 0) 0 pu) p (sfx (pyLn (cN s 0) 0 pu) 4 0))) ∧ σ = (nx, sh, P, I1) ∧ xFrm [113, 114, 115, 116] I I1) := by
  refine xMet.of [some (.ref 109), some (.int p), none, none, none] (by decide +kernel) (Nat.le_of_ble_eq_true rfl) rfl ?_
  refine x_iconst (v := 0) dX5_howManyWays_0 (by decide) ?_
  refine x_istore_n dX5_howManyWays_1 (Nat.le_of_ble_eq_true rfl) ?_
  try simp only [xst, xst2, xclr, xset, xwide]
  refine x_aload_n dX5_howManyWays_2 rfl ?_
  skip
  refine x_iconst (v := 0) dX5_howManyWays_3 (by decide) ?_
  refine x_callV (k2 := 0) (n2 := 0) dX5_howManyWays_4 LV_Payer_73 (m_Payer_start hx hW hR (back := 0) (by decide : 0 ≤ 3) (fun c hc => ⟨(hpy c hc).1, (hpy c hc).2.1⟩)) rfl rfl (fxo_109 hx) rfl (Nat.le_of_ble_eq_true rfl) (Nat.le_of_ble_eq_true rfl) (Nat.le_of_ble_eq_true rfl) (Nat.le_of_ble_eq_true rfl) ?_
  rintro _ _ ⟨I1, rfl, rfl, hF1, hb1, hr1⟩
  have hN9 := py_n (n := cN s 0) (back := 0) (pu := pu) (by decide : 0 ≤ 3) (fun c hc => (hpy c hc).2.1)
  refine x_istore_n dX5_howManyWays_7 (Nat.le_of_ble_eq_true rfl) ?_
  try simp only [xst, xst2, xclr, xset, xwide]
  refine x_iconst (v := 0) dX5_howManyWays_8 (by decide) ?_
  refine x_istore dX5_howManyWays_9 (Nat.le_of_ble_eq_true rfl) ?_
  try simp only [xst, xst2, xclr, xset, xwide]
  have K11 : ∀ (fuel : Nat) (i : Nat) (I2 : Nat → Nat → Int32) (hi : i ≤ (sfx (pyLn (cN s 0) 0 pu) 4 0)) (hF : xFrm [113, 114, 115, 116] I I2) (hb : ∀ c, c < 4 → I2 113 c = pyB (cN s 0) 0 c ∧ I2 114 c = nI (pu c)) (hr : xRwAt (I2 113) (pyLn (cN s 0) 0 pu) 4 i (I2 115)), (sfx (pyLn (cN s 0) 0 pu) 4 0) - i < fuel → xX g Y_Payer_howManyWays 2 0 0 (fun r σ => ∃ I1 : Nat → Nat → Int32, r = some (.int (wyS (pwV s pu) (pyV (cN s 0) 0 pu) p (sfx (pyLn (cN s 0) 0 pu) 4 0))) ∧ σ = (nx, sh, P, I1) ∧ xFrm [113, 114, 115, 116] I I1) 11 [some (.ref 109), some (.int p), some (.int (wyS (pwV s pu) (pyV (cN s 0) 0 pu) p i)), some (.int (nI (sfx (pyLn (cN s 0) 0 pu) 4 0))), some (.int (nI i))] [] (nx, sh, P, I2) := by
    intro fuel
    induction fuel with
    | zero => intro i I2 hi hF hb hr hm; exact absurd hm (Nat.not_lt_zero _)
    | succ fuel ih11 =>
      intro i I2 hi hF hb hr hm
      have hat := py_at hb hr
      have e111 : ∀ j, j < 4 → I2 111 j = pwV s pu j := fun j hj => by rw [hF 111 (by decide)]; exact (hpy j hj).2.2
      have hsm : xSm (I2 115) (I2 111) 0 4 = smV (pwV s pu) ((pyV (cN s 0) 0 pu) i) := xSm_c 4 (fun j hj => by rw [Nat.zero_add]; exact hat j hj) e111
      have hsz : xSz (I2 115) 4 = xSz ((pyV (cN s 0) 0 pu) i) 4 := xSz_c 4 hat
      have hlh := py_lh (by decide : 0 ≤ 3) hb (fun c hc => (hpy c hc).2.1)
      refine x_iload dX5_howManyWays_11 rfl ?_
      refine x_iload_n dX5_howManyWays_13 rfl ?_
      refine x_icmp_ge (tgt := 48) dX5_howManyWays_14 rfl (fun c14 => ?_) (fun c14 => ?_)
      · have hie : i = (sfx (pyLn (cN s 0) 0 pu) 4 0) := cge_t (by omega) hi c14
        refine x_iload_n dX5_howManyWays_48 rfl ?_
        refine x_ireturn dX5_howManyWays_49 rfl nb_int ?_
        subst hie
        exact ⟨I2, rfl, rfl, hF⟩
      · have him : i < (sfx (pyLn (cN s 0) 0 pu) 4 0) := cge_f (by omega) hi c14
        refine x_aload_n dX5_howManyWays_17 rfl ?_
        refine y_getr dX5_howManyWays_18 F_Payer_23 (fxo_109 hx) rfl (fxp_109_3 hx) ?_
        refine x_aload_n dX5_howManyWays_21 rfl ?_
        refine y_getr dX5_howManyWays_22 F_Payer_15 (fxo_109 hx) rfl (fxp_109_2 hx) ?_
        refine x_callV (k2 := 0) (n2 := 0) dX5_howManyWays_25 LV_Payer_76 (m_Rows_sum (I := I2) (xrP hx) (fxk_111 hx)) rfl rfl (fxo_112 hx) rfl (Nat.le_of_ble_eq_true rfl) (Nat.le_of_ble_eq_true rfl) (Nat.le_of_ble_eq_true rfl) (Nat.le_of_ble_eq_true rfl) ?_
        rintro _ _ ⟨rfl, rfl⟩
        rw [hsm]
        refine x_iload_n dX5_howManyWays_28 rfl ?_
        refine x_icmp_ne (tgt := 35) dX5_howManyWays_29 rfl (fun c29 => ?_) (fun c29 => ?_)
        · skip
          refine x_aload_n dX5_howManyWays_35 rfl ?_
          refine y_getr dX5_howManyWays_36 F_Payer_23 (fxo_109 hx) rfl (fxp_109_3 hx) ?_
          refine x_callV (k2 := 0) (n2 := 0) dX5_howManyWays_39 LV_Payer_87 (m_Rows_step (I := I2) (xrP hx)) rfl rfl (fxo_112 hx) rfl (Nat.le_of_ble_eq_true rfl) (Nat.le_of_ble_eq_true rfl) (Nat.le_of_ble_eq_true rfl) (Nat.le_of_ble_eq_true rfl) ?_
          rintro _ _ ⟨rfl, rfl⟩
          refine x_iinc (v := (nI (i + 1))) dX5_howManyWays_42 rfl (nI_1 _) (Nat.le_of_ble_eq_true rfl) ?_
          try simp only [xst, xst2, xclr, xset, xwide]
          refine x_goto (tgt := 11) dX5_howManyWays_45 rfl ?_
          rw [show wyS (pwV s pu) (pyV (cN s 0) 0 pu) p i = wyS (pwV s pu) (pyV (cN s 0) 0 pu) p (i + 1) from by show _ = if smV (pwV s pu) ((pyV (cN s 0) 0 pu) i) = p then _ else _; rw [if_neg c29]]
          exact ih11 (i + 1) _ (by omega) (xFrv hF) (fun c hc => by rw [va_up_no (by decide), va_up_no (by decide)]; exact hb c hc) (by rw [va_up_no (by decide), va_up_at]; exact xRwAt.st hlh hr) (by omega)
        · skip
          refine x_iinc (v := (wyS (pwV s pu) (pyV (cN s 0) 0 pu) p i + 1)) dX5_howManyWays_32 rfl rfl (Nat.le_of_ble_eq_true rfl) ?_
          try simp only [xst, xst2, xclr, xset, xwide]
          refine x_aload_n dX5_howManyWays_35 rfl ?_
          refine y_getr dX5_howManyWays_36 F_Payer_23 (fxo_109 hx) rfl (fxp_109_3 hx) ?_
          refine x_callV (k2 := 0) (n2 := 0) dX5_howManyWays_39 LV_Payer_87 (m_Rows_step (I := I2) (xrP hx)) rfl rfl (fxo_112 hx) rfl (Nat.le_of_ble_eq_true rfl) (Nat.le_of_ble_eq_true rfl) (Nat.le_of_ble_eq_true rfl) (Nat.le_of_ble_eq_true rfl) ?_
          rintro _ _ ⟨rfl, rfl⟩
          refine x_iinc (v := (nI (i + 1))) dX5_howManyWays_42 rfl (nI_1 _) (Nat.le_of_ble_eq_true rfl) ?_
          try simp only [xst, xst2, xclr, xset, xwide]
          refine x_goto (tgt := 11) dX5_howManyWays_45 rfl ?_
          rw [show wyS (pwV s pu) (pyV (cN s 0) 0 pu) p i + 1 = wyS (pwV s pu) (pyV (cN s 0) 0 pu) p (i + 1) from by show _ = if smV (pwV s pu) ((pyV (cN s 0) 0 pu) i) = p then _ else _; rw [if_pos c29]]
          exact ih11 (i + 1) _ (by omega) (xFrv hF) (fun c hc => by rw [va_up_no (by decide), va_up_no (by decide)]; exact hb c hc) (by rw [va_up_no (by decide), va_up_at]; exact xRwAt.st hlh hr) (by omega)
  exact K11 _ 0 I1 (Nat.zero_le _) hF1.mono hb1 hr1 (Nat.lt_succ_self _)

set_option maxHeartbeats 4000000 in
set_option maxRecDepth 100000 in
theorem m_Payer_ofBest {g : xG} {nx : Nat} {sh : Nat → Nat × Nat} {P : Nat → Nat → Option Nat} {I : Nat → Nat → Int32} (hx : xFx sh P) {c : Nat} (hc4 : c < 4) : xMet g Y_Payer_ofBest 0 0 0 [.ref 109, .int (nI c)] (nx, sh, P, I) (fun r σ => r = some (.int (I 116 c)) ∧ σ = (nx, sh, P, I)) := by
  refine xMet.of [some (.ref 109), some (.int (nI c))] (by decide +kernel) (Nat.le_of_ble_eq_true rfl) rfl ?_
  refine x_iload_n dX5_ofBest_0 rfl ?_
  refine x_if_lt (tgt := 22) dX5_ofBest_1 rfl (fun c1 => ?_) (fun c1 => ?_)
  · exact absurd c1 (nI_pos (by omega))
  · refine x_iload_n dX5_ofBest_4 rfl ?_
    refine x_aload_n dX5_ofBest_5 rfl ?_
    refine y_getr dX5_ofBest_6 F_Payer_27 (fxo_109 hx) rfl (fxp_109_4 hx) ?_
    refine y_alen dX5_ofBest_9 (fxk_116 hx) (by decide) ?_
    refine x_icmp_ge (tgt := 22) dX5_ofBest_10 rfl (fun c10 => ?_) (fun c10 => ?_)
    · exact absurd ((nI_leI (by decide) (by omega)).mp c10) (by omega)
    · refine x_aload_n dX5_ofBest_13 rfl ?_
      refine y_getr dX5_ofBest_14 F_Payer_27 (fxo_109 hx) rfl (fxp_109_4 hx) ?_
      refine x_iload_n dX5_ofBest_17 rfl ?_
      refine y_iaload dX5_ofBest_18 (fxk_116 hx) (vi rfl hc4 (by decide)) (rI (j := c) (ci rfl (by omega)) rfl) ?_
      refine x_goto (tgt := 23) dX5_ofBest_19 rfl ?_
      refine x_ireturn dX5_ofBest_23 rfl nb_int ?_
      exact ⟨rfl, rfl⟩

def rcP (f w : Nat → Int32) : Nat → Int32
  | 0 => 0
  | m + 1 => rcP f w m + f m * w m
set_option maxHeartbeats 4000000 in
set_option maxRecDepth 100000 in
theorem m_Payer_riches {g : xG} {nx : Nat} {sh : Nat → Nat × Nat} {P : Nat → Nat → Option Nat} {I : Nat → Nat → Int32} (hx : xFx sh P) : xMet g Y_Payer_riches 0 0 0 [.ref 109] (nx, sh, P, I) (fun r σ => r = some (.int (rcP (I 110) (I 111) 4)) ∧ σ = (nx, sh, P, I)) := by
  refine xMet.of [some (.ref 109), none, none] (by decide +kernel) (Nat.le_of_ble_eq_true rfl) rfl ?_
  refine x_iconst (v := 0) dX5_riches_0 (by decide) ?_
  refine x_istore_n dX5_riches_1 (Nat.le_of_ble_eq_true rfl) ?_
  try simp only [xst, xst2, xclr, xset, xwide]
  refine x_iconst (v := 0) dX5_riches_2 (by decide) ?_
  refine x_istore_n dX5_riches_3 (Nat.le_of_ble_eq_true rfl) ?_
  try simp only [xst, xst2, xclr, xset, xwide]
  have K4 : ∀ (fuel : Nat) (i : Nat) (hi : i ≤ 4), 4 - i < fuel → xX g Y_Payer_riches 0 0 0 (fun r σ => r = some (.int (rcP (I 110) (I 111) 4)) ∧ σ = (nx, sh, P, I)) 4 [some (.ref 109), some (.int (rcP (I 110) (I 111) i)), some (.int (nI i))] [] (nx, sh, P, I) := by
    intro fuel
    induction fuel with
    | zero => intro i hi hm; exact absurd hm (Nat.not_lt_zero _)
    | succ fuel ih4 =>
      intro i hi hm
      refine x_iload_n dX5_riches_4 rfl ?_
      refine x_aload_n dX5_riches_5 rfl ?_
      refine y_getr dX5_riches_6 F_Payer_9 (fxo_109 hx) rfl (fxp_109_1 hx) ?_
      refine y_alen dX5_riches_9 (fxk_110 hx) (by decide) ?_
      refine x_icmp_ge (tgt := 44) dX5_riches_10 rfl (fun c10 => ?_) (fun c10 => ?_)
      · have hie : i = 4 := cge_t (by decide) hi c10
        refine x_iload_n dX5_riches_44 rfl ?_
        refine x_ireturn dX5_riches_45 rfl nb_int ?_
        subst hie
        exact ⟨rfl, rfl⟩
      · have him : i < 4 := cge_f (by decide) hi c10
        refine x_iload_n dX5_riches_13 rfl ?_
        refine x_aload_n dX5_riches_14 rfl ?_
        refine y_getr dX5_riches_15 F_Payer_15 (fxo_109 hx) rfl (fxp_109_2 hx) ?_
        refine y_alen dX5_riches_18 (fxk_111 hx) (by decide) ?_
        refine x_icmp_ge (tgt := 44) dX5_riches_19 rfl (fun c19 => ?_) (fun c19 => ?_)
        · exact absurd ((nI_leI (by decide) (by omega)).mp c19) (by omega)
        · refine x_iload_n dX5_riches_22 rfl ?_
          refine x_aload_n dX5_riches_23 rfl ?_
          refine y_getr dX5_riches_24 F_Payer_9 (fxo_109 hx) rfl (fxp_109_1 hx) ?_
          refine x_iload_n dX5_riches_27 rfl ?_
          refine y_iaload dX5_riches_28 (fxk_110 hx) (vi rfl him (by decide)) (rI (j := i) (ci rfl (by omega)) rfl) ?_
          refine x_aload_n dX5_riches_29 rfl ?_
          refine y_getr dX5_riches_30 F_Payer_15 (fxo_109 hx) rfl (fxp_109_2 hx) ?_
          refine x_iload_n dX5_riches_33 rfl ?_
          refine y_iaload dX5_riches_34 (fxk_111 hx) (vi rfl him (by decide)) (rI (j := i) (ci rfl (by omega)) rfl) ?_
          refine x_imul dX5_riches_35 ?_
          refine x_iadd dX5_riches_36 ?_
          refine x_istore_n dX5_riches_37 (Nat.le_of_ble_eq_true rfl) ?_
          try simp only [xst, xst2, xclr, xset, xwide]
          refine x_iinc (v := (nI (i + 1))) dX5_riches_38 rfl (nI_1 _) (Nat.le_of_ble_eq_true rfl) ?_
          try simp only [xst, xst2, xclr, xset, xwide]
          refine x_goto (tgt := 4) dX5_riches_41 rfl ?_
          exact ih4 (i + 1) (by omega) (by omega)
  exact K4 _ 0 (by decide) (Nat.lt_succ_self _)
