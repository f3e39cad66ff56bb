/-! the class: carry -/
theorem pyB_0 {n c : Nat} : pyB n 0 c = 0 := by unfold pyB; by_cases h : c < n; rw [if_pos h]; rfl; rw [if_neg h]
theorem cy_lh {I : Nat → Nat → Int32} {n : Nat} (hb : ∀ c, c < 4 → I 113 c = pyB n 0 c ∧ I 114 c = nI (lmN n c)) : xLH (I 113) (I 114) (cyL n) 4 := py_lh (by decide) hb (fun _ _ => Nat.le_trans lm_9 (by decide))
theorem cy_n {n : Nat} : sfx (cyL n) 4 0 ≤ 28561 := py_n (back := 0) (by decide) (fun _ _ => Nat.le_trans lm_9 (by decide))
set_option maxHeartbeats 4000000 in
set_option maxRecDepth 100000 in
theorem m_Payer_paysUpTo {g : xG} {nx : Nat} {sh : Nat → Nat × Nat} {P : Nat → Nat → Option Nat} {I : Nat → Nat → Int32} (hx : xFx sh P) {n : Int32} {w : Nat → Int32} {d : Nat → Nat} (hI : ∀ c, c < 4 → I 111 c = w c ∧ I 115 c = nI (d c) ∧ d c ≤ 6) : xMet g Y_Payer_paysUpTo 1 0 0 [.ref 109, .int n] (nx, sh, P, I) (fun r σ => r = some (.int (bv (decide (pcP n w d 4 = alN n)))) ∧ σ = (nx, sh, P, I)) := by
  refine xMet.of [some (.ref 109), some (.int n), none, none, none, none, none, none, none] (by decide +kernel) (Nat.le_of_ble_eq_true rfl) rfl ?_
  refine x_lconst (v := 1) dX5_paysUpTo_0 (by decide) ?_
  refine x_iload_n dX5_paysUpTo_1 rfl ?_
  refine x_iconst (v := 1) dX5_paysUpTo_2 (by decide) ?_
  refine x_iadd dX5_paysUpTo_3 ?_
  refine x_lshl dX5_paysUpTo_4 ?_
  refine x_lconst (v := 1) dX5_paysUpTo_5 (by decide) ?_
  refine x_lsub dX5_paysUpTo_6 ?_
  rw [show (1 : Int64) <<< ((n + 1).toInt64 &&& 63) - 1 = alN n from rfl]
  refine x_lstore_n dX5_paysUpTo_7 (Nat.le_of_ble_eq_true rfl) ?_
  try simp only [xst, xst2, xclr, xset, xwide]
  refine x_lconst (v := 1) dX5_paysUpTo_8 (by decide) ?_
  refine x_lstore dX5_paysUpTo_9 (Nat.le_of_ble_eq_true rfl) ?_
  try simp only [xst, xst2, xclr, xset, xwide]
  refine x_iconst (v := 0) dX5_paysUpTo_11 (by decide) ?_
  refine x_istore dX5_paysUpTo_12 (Nat.le_of_ble_eq_true rfl) ?_
  try simp only [xst, xst2, xclr, xset, xwide]
  have K14 : ∀ (fuel : Nat) (c : Nat) (v7 v8 : Option Value) (hc : c ≤ 4), 4 - c < fuel → xX g Y_Payer_paysUpTo 1 0 0 (fun r σ => r = some (.int (bv (decide (pcP n w d 4 = alN n)))) ∧ σ = (nx, sh, P, I)) 14 [some (.ref 109), some (.int n), some (.long (alN n)), none, some (.long (pcP n w d c)), none, some (.int (nI c)), v7, v8] [] (nx, sh, P, I) := by
    intro fuel
    induction fuel with
    | zero => intro c v7 v8 hc hm; exact absurd hm (Nat.not_lt_zero _)
    | succ fuel ih14 =>
      intro c v7 v8 hc hm
      refine x_iload dX5_paysUpTo_14 rfl ?_
      refine x_aload_n dX5_paysUpTo_16 rfl ?_
      refine y_getr dX5_paysUpTo_17 F_Payer_15 (fxo_109 hx) rfl (fxp_109_2 hx) ?_
      refine y_alen dX5_paysUpTo_20 (fxk_111 hx) (by decide) ?_
      refine x_icmp_ge (tgt := 89) dX5_paysUpTo_21 rfl (fun c21 => ?_) (fun c21 => ?_)
      · have hie : c = 4 := cge_t (by decide) hc c21
        subst hie
        refine x_lload dX5_paysUpTo_89 rfl ?_
        refine x_lload_n dX5_paysUpTo_91 rfl ?_
        refine x_lcmp dX5_paysUpTo_92 ?_
        refine x_if_ne (tgt := 100) dX5_paysUpTo_93 rfl (fun c93 => ?_) (fun c93 => ?_)
        · skip
          refine x_iconst (v := 0) dX5_paysUpTo_100 (by decide) ?_
          refine x_ireturn dX5_paysUpTo_101 rfl rfl ?_
          exact ⟨by rw [show decide (pcP n w d 4 = alN n) = false from decide_eq_false (fun y => c93 (lcmpE.mpr y))]; rfl, rfl⟩
        · skip
          refine x_iconst (v := 1) dX5_paysUpTo_96 (by decide) ?_
          refine x_goto (tgt := 101) dX5_paysUpTo_97 rfl ?_
          refine x_ireturn dX5_paysUpTo_101 rfl rfl ?_
          exact ⟨by rw [show decide (pcP n w d 4 = alN n) = true from decide_eq_true (lcmpE.mp c93)]; rfl, rfl⟩
      · have him : c < 4 := cge_f (by decide) hc c21
        obtain ⟨hwc, hdc, hd6⟩ := hI c him
        have J48 : ∀ (u : Nat) (hu : u ≤ 6) (hu2 : (w c ≤ n ∧ u = d c) ∨ (¬ w c ≤ n ∧ u = 0)), xX g Y_Payer_paysUpTo 1 0 0 (fun r σ => r = some (.int (bv (decide (pcP n w d 4 = alN n)))) ∧ σ = (nx, sh, P, I)) 48 [some (.ref 109), some (.int n), some (.long (alN n)), none, some (.long (pcP n w d c)), none, some (.int (nI c)), v7, v8] [.int (nI u)] (nx, sh, P, I) := by
          intro u hu hu2
          refine x_istore dX5_paysUpTo_48 (Nat.le_of_ble_eq_true rfl) ?_
          try simp only [xst, xst2, xclr, xset, xwide]
          refine x_iconst (v := 0) dX5_paysUpTo_50 (by decide) ?_
          refine x_istore dX5_paysUpTo_51 (Nat.le_of_ble_eq_true rfl) ?_
          try simp only [xst, xst2, xclr, xset, xwide]
          have K53 : ∀ (fuel : Nat) (i : Nat) (x : Int64) (hi : i ≤ u) (hxx : x = ckI (alN n) (w c) (pcP n w d c) i), u - i < fuel → xX g Y_Payer_paysUpTo 1 0 0 (fun r σ => r = some (.int (bv (decide (pcP n w d 4 = alN n)))) ∧ σ = (nx, sh, P, I)) 53 [some (.ref 109), some (.int n), some (.long (alN n)), none, some (.long x), none, some (.int (nI c)), some (.int (nI u)), some (.int (nI i))] [] (nx, sh, P, I) := by
            intro fuel
            induction fuel with
            | zero => intro i x hi hxx hm; exact absurd hm (Nat.not_lt_zero _)
            | succ fuel ih53 =>
              intro i x hi hxx hm
              refine x_iload dX5_paysUpTo_53 rfl ?_
              refine x_iload dX5_paysUpTo_55 rfl ?_
              refine x_icmp_ge (tgt := 83) dX5_paysUpTo_57 rfl (fun c57 => ?_) (fun c57 => ?_)
              · have hie5 : i = u := cge_t (by omega) hi c57
                refine x_iinc (v := (nI (c + 1))) dX5_paysUpTo_83 rfl (nI_1 _) (Nat.le_of_ble_eq_true rfl) ?_
                try simp only [xst, xst2, xclr, xset, xwide]
                refine x_goto (tgt := 14) dX5_paysUpTo_86 rfl ?_
                rw [show x = pcP n w d (c + 1) from by
                  show x = ckS (alN n) n (w c) (pcP n w d c) (d c)
                  unfold ckS
                  rcases hu2 with ⟨h1, h2⟩ | ⟨h1, h2⟩
                  · rw [if_pos h1, hxx, hie5, h2]
                  · rw [if_neg h1, hxx, hie5, h2]; rfl]
                exact ih14 (c + 1) _ _ (by omega) (by omega)
              · have hip : i < u := cge_f (by omega) hi c57
                refine x_lload dX5_paysUpTo_60 rfl ?_
                refine x_lload dX5_paysUpTo_62 rfl ?_
                refine x_aload_n dX5_paysUpTo_64 rfl ?_
                refine y_getr dX5_paysUpTo_65 F_Payer_15 (fxo_109 hx) rfl (fxp_109_2 hx) ?_
                refine x_iload dX5_paysUpTo_68 rfl ?_
                refine y_iaload dX5_paysUpTo_70 (fxk_111 hx) (vi rfl him (by decide)) (rI (j := c) (ci rfl (by omega)) hwc) ?_
                refine x_lshl dX5_paysUpTo_71 ?_
                refine x_lload_n dX5_paysUpTo_72 rfl ?_
                refine x_land dX5_paysUpTo_73 ?_
                refine x_lor dX5_paysUpTo_74 ?_
                refine x_lstore dX5_paysUpTo_75 (Nat.le_of_ble_eq_true rfl) ?_
                try simp only [xst, xst2, xclr, xset, xwide]
                refine x_iinc (v := (nI (i + 1))) dX5_paysUpTo_77 rfl (nI_1 _) (Nat.le_of_ble_eq_true rfl) ?_
                try simp only [xst, xst2, xclr, xset, xwide]
                refine x_goto (tgt := 53) dX5_paysUpTo_80 rfl ?_
                exact ih53 (i + 1) _ (by omega) (by rw [hxx]; rfl) (by omega)
          exact K53 _ 0 _ (Nat.zero_le _) rfl (Nat.lt_succ_self _)
        refine x_aload_n dX5_paysUpTo_24 rfl ?_
        refine y_getr dX5_paysUpTo_25 F_Payer_15 (fxo_109 hx) rfl (fxp_109_2 hx) ?_
        refine x_iload dX5_paysUpTo_28 rfl ?_
        refine y_iaload dX5_paysUpTo_30 (fxk_111 hx) (vi rfl him (by decide)) (rI (j := c) (ci rfl (by omega)) hwc) ?_
        refine x_iload_n dX5_paysUpTo_31 rfl ?_
        refine x_icmp_gt (tgt := 47) dX5_paysUpTo_32 rfl (fun c32 => ?_) (fun c32 => ?_)
        · skip
          refine x_iconst (v := 0) dX5_paysUpTo_47 (by decide) ?_
          exact J48 0 (by decide) (Or.inr ⟨Int32.not_le.mpr c32, rfl⟩)
        · skip
          refine x_aload_n dX5_paysUpTo_35 rfl ?_
          refine y_getr dX5_paysUpTo_36 F_Payer_23 (fxo_109 hx) rfl (fxp_109_3 hx) ?_
          refine x_iload dX5_paysUpTo_39 rfl ?_
          refine x_callV (k2 := 0) (n2 := 0) dX5_paysUpTo_41 LV_Payer_93 (m_Rows_get (I := I) (xrP hx) (p := c) him) rfl rfl (fxo_112 hx) rfl (Nat.le_of_ble_eq_true rfl) (Nat.le_of_ble_eq_true rfl) (Nat.le_of_ble_eq_true rfl) (Nat.le_of_ble_eq_true rfl) ?_
          rintro _ _ ⟨rfl, rfl⟩
          rw [hdc]
          refine x_goto (tgt := 48) dX5_paysUpTo_44 rfl ?_
          exact J48 (d c) hd6 (Or.inl ⟨Int32.not_lt.mp c32, rfl⟩)
  exact K14 _ 0 none none (by decide) (Nat.lt_succ_self _)

set_option maxHeartbeats 4000000 in
set_option maxRecDepth 100000 in
theorem m_Payer_fewestForUpTo {g : xG} {nx : Nat} {sh : Nat → Nat × Nat} {P : Nat → Nat → Option Nat} {I : Nat → Nat → Int32} (hx : xFx sh P) {s : Nat → Int32} (hW : xWN nx sh P I s) (hR : RI s) {n : Int32} (hpy : xPy I s (puN s)) : xMet g Y_Payer_fewestForUpTo 2 0 0 [.ref 109, .int n] (nx, sh, P, I) (fun r σ => ∃ I1 : Nat → Nat → Int32, r = some (.int (fcS (paysC n (wv s) (cN s 0)) (cyV (cN s 0)) (I 116) (sfx (cyL (cN s 0)) 4 0)).1) ∧ σ = (nx, sh, P, I1) ∧ xFrm [113, 114, 115, 116] I I1 ∧ I1 116 = (fcS (paysC n (wv s) (cN s 0)) (cyV (cN s 0)) (I 116) (sfx (cyL (cN s 0)) 4 0)).2) := by
  refine xMet.of [some (.ref 109), some (.int n), none, none, none] (by decide +kernel) (Nat.le_of_ble_eq_true rfl) rfl ?_
  obtain ⟨⟨tTape, tCoins, tWares, tBuys, tSlates, tPlans, tBooked⟩, ⟨cTape, cCoins, cWares, cBuys, cSlates, cPlans, cBooked⟩, hW7, hW9, hL⟩ := id hW
  obtain ⟨⟨n0, b0, e0⟩, ⟨n1, b1, e1⟩, ⟨n2, b2, e2⟩, ⟨n3, b3, e3⟩, ⟨n4, b4, e4⟩, ⟨n5, b5, e5⟩, ⟨n6, b6, e6⟩, ⟨n7, b7, e7⟩, ⟨n9, b9, e9⟩⟩ := hR.k
  have k7 : cN s 7 = n7 := cN_of e7 (by omega)
  rw [k7] at tTape cTape
  have k0 : cN s 0 = n0 := cN_of e0 (by omega)
  rw [k0] at tCoins cCoins
  have k1 : cN s 1 = n1 := cN_of e1 (by omega)
  rw [k1] at tWares cWares
  have k3 : cN s 3 = n3 := cN_of e3 (by omega)
  rw [k3] at tBuys cBuys
  have k4 : cN s 4 = n4 := cN_of e4 (by omega)
  rw [k4] at tSlates cSlates
  have k5 : cN s 5 = n5 := cN_of e5 (by omega)
  rw [k5] at tPlans cPlans
  have k6 : cN s 6 = n6 := cN_of e6 (by omega)
  rw [k6] at tBooked cBooked
  refine x_iconst (v := 0) dX5_fewestForUpTo_0 (by decide) ?_
  refine x_istore_n dX5_fewestForUpTo_1 (Nat.le_of_ble_eq_true rfl) ?_
  try simp only [xst, xst2, xclr, xset, xwide]
  have K2 : ∀ (fuel : Nat) (c : Nat) (I2 : Nat → Nat → Int32) (hc : c ≤ 4) (hF : xFrm [113, 114] I I2) (hb : ∀ j, j < c → I2 113 j = pyB (cN s 0) 0 j ∧ I2 114 j = nI (lmN (cN s 0) j)), 4 - c < fuel → xX g Y_Payer_fewestForUpTo 2 0 0 (fun r σ => ∃ I1 : Nat → Nat → Int32, r = some (.int (fcS (paysC n (wv s) (cN s 0)) (cyV (cN s 0)) (I 116) (sfx (cyL (cN s 0)) 4 0)).1) ∧ σ = (nx, sh, P, I1) ∧ xFrm [113, 114, 115, 116] I I1 ∧ I1 116 = (fcS (paysC n (wv s) (cN s 0)) (cyV (cN s 0)) (I 116) (sfx (cyL (cN s 0)) 4 0)).2) 2 [some (.ref 109), some (.int n), some (.int (nI c)), none, none] [] (nx, sh, P, I2) := by
    intro fuel
    induction fuel with
    | zero => intro c I2 hc hF hb hm; exact absurd hm (Nat.not_lt_zero _)
    | succ fuel ih2 =>
      intro c I2 hc hF hb hm
      have tC2 : xTb sh P I2 68 69 8 4 n0 := tCoins.other (hF 68 (by decide))
      refine x_iload_n dX5_fewestForUpTo_2 rfl ?_
      refine x_iconst (v := 4) dX5_fewestForUpTo_3 (by decide) ?_
      refine x_icmp_ge (tgt := 42) dX5_fewestForUpTo_4 rfl (fun c4 => ?_) (fun c4 => ?_)
      · have hie : c = 4 := cge_t (by decide) hc c4
        subst hie
        refine x_bipush (v := (-5)) dX5_fewestForUpTo_42 (by decide) ?_
        refine x_istore_n dX5_fewestForUpTo_44 (Nat.le_of_ble_eq_true rfl) ?_
        try simp only [xst, xst2, xclr, xset, xwide]
        refine x_aload_n dX5_fewestForUpTo_45 rfl ?_
        refine y_getr dX5_fewestForUpTo_46 F_Payer_23 (fxo_109 hx) rfl (fxp_109_3 hx) ?_
        refine x_callV (k2 := 0) (n2 := 0) dX5_fewestForUpTo_49 LV_Payer_69 (m_Rows_start (I := I2) (xrP hx)) rfl rfl (fxo_112 hx) rfl (Nat.le_of_ble_eq_true rfl) (Nat.le_of_ble_eq_true rfl) (Nat.le_of_ble_eq_true rfl) (Nat.le_of_ble_eq_true rfl) ?_
        rintro _ _ ⟨rfl, rfl⟩
        rw [xPr_a (cy_lh hb)]
        have hN9 := cy_n (n := cN s 0)
        have hb1 : ∀ c, c < 4 → va_up I2 115 (xTk (I2 113) (I2 115) 4) 113 c = pyB (cN s 0) 0 c ∧ va_up I2 115 (xTk (I2 113) (I2 115) 4) 114 c = nI (lmN (cN s 0) c) := fun c hc => by rw [va_up_no (by decide), va_up_no (by decide)]; exact hb c hc
        have hr1 : xRwAt (va_up I2 115 (xTk (I2 113) (I2 115) 4) 113) (cyL (cN s 0)) 4 0 (va_up I2 115 (xTk (I2 113) (I2 115) 4) 115) := xRwAt.z (fun c hc => by rw [va_up_at, va_up_no (by decide)]; exact xTk_r hc)
        have hF1 : xFrm [113, 114, 115, 116] I (va_up I2 115 (xTk (I2 113) (I2 115) 4)) := xFrv hF.mono
        have h116 : va_up I2 115 (xTk (I2 113) (I2 115) 4) 116 = I 116 := by rw [va_up_no (by decide)]; exact hF 116 (by decide)
        generalize va_up I2 115 (xTk (I2 113) (I2 115) 4) = I1 at hb1 hr1 hF1 h116 ⊢
        refine x_istore_n dX5_fewestForUpTo_52 (Nat.le_of_ble_eq_true rfl) ?_
        try simp only [xst, xst2, xclr, xset, xwide]
        refine x_iconst (v := 0) dX5_fewestForUpTo_53 (by decide) ?_
        refine x_istore dX5_fewestForUpTo_54 (Nat.le_of_ble_eq_true rfl) ?_
        try simp only [xst, xst2, xclr, xset, xwide]
        have K56 : ∀ (fuel : Nat) (i : Nat) (I3 : Nat → Nat → Int32) (hi : i ≤ (sfx (cyL (cN s 0)) 4 0)) (hF : xFrm [113, 114, 115, 116] I I3) (hb : ∀ c, c < 4 → I3 113 c = pyB (cN s 0) 0 c ∧ I3 114 c = nI (lmN (cN s 0) c)) (hr : xRwAt (I3 113) (cyL (cN s 0)) 4 i (I3 115)) (hbs : I3 116 = (fcS (paysC n (wv s) (cN s 0)) (cyV (cN s 0)) (I 116) i).2), (sfx (cyL (cN s 0)) 4 0) - i < fuel → xX g Y_Payer_fewestForUpTo 2 0 0 (fun r σ => ∃ I1 : Nat → Nat → Int32, r = some (.int (fcS (paysC n (wv s) (cN s 0)) (cyV (cN s 0)) (I 116) (sfx (cyL (cN s 0)) 4 0)).1) ∧ σ = (nx, sh, P, I1) ∧ xFrm [113, 114, 115, 116] I I1 ∧ I1 116 = (fcS (paysC n (wv s) (cN s 0)) (cyV (cN s 0)) (I 116) (sfx (cyL (cN s 0)) 4 0)).2) 56 [some (.ref 109), some (.int n), some (.int (fcS (paysC n (wv s) (cN s 0)) (cyV (cN s 0)) (I 116) i).1), some (.int (nI (sfx (cyL (cN s 0)) 4 0))), some (.int (nI i))] [] (nx, sh, P, I3) := by
          intro fuel
          induction fuel with
          | zero => intro i I3 hi hF hb hr hbs hm; exact absurd hm (Nat.not_lt_zero _)
          | succ fuel ih56 =>
            intro i I3 hi hF hb hr hbs hm
            have hat : ∀ c, c < 4 → I3 115 c = cyV (cN s 0) i c := py_at hb hr
            have e111 : ∀ j, j < 4 → I3 111 j = wv s j := fun j hj => by rw [hF 111 (by decide), (hpy j hj).2.2, pwV_s hR]
            have hsz : xSz (I3 115) 4 = xSz ((cyV (cN s 0)) i) 4 := xSz_c 4 hat
            have hdd : ∀ c, c < 4 → I3 111 c = wv s c ∧ I3 115 c = nI (dgt (cyL (cN s 0)) 4 i c) ∧ dgt (cyL (cN s 0)) 4 i c ≤ 6 := fun c hc => ⟨e111 c hc, (hat c hc).trans cyV_e, cy_d⟩
            have hlh := cy_lh hb
            refine x_iload dX5_fewestForUpTo_56 rfl ?_
            refine x_iload_n dX5_fewestForUpTo_58 rfl ?_
            refine x_icmp_ge (tgt := 119) dX5_fewestForUpTo_59 rfl (fun c59 => ?_) (fun c59 => ?_)
            · have hie : i = (sfx (cyL (cN s 0)) 4 0) := cge_t (by omega) hi c59
              refine x_iload_n dX5_fewestForUpTo_119 rfl ?_
              refine x_ireturn dX5_fewestForUpTo_120 rfl nb_int ?_
              exact ⟨I3, by rw [hie], rfl, hF, by rw [hbs, hie]⟩
            · have him : i < (sfx (cyL (cN s 0)) 4 0) := cge_f (by omega) hi c59
              have J106 : ∀ (I4 : Nat → Nat → Int32) (fw : Int32) (hF3 : xFrm [113, 114, 115, 116] I I4) (z1 : I4 113 = I3 113) (z2 : I4 114 = I3 114) (z3 : I4 115 = I3 115) (hfw : fw = (fcS (paysC n (wv s) (cN s 0)) (cyV (cN s 0)) (I 116) (i + 1)).1) (hbs3 : I4 116 = (fcS (paysC n (wv s) (cN s 0)) (cyV (cN s 0)) (I 116) (i + 1)).2), xX g Y_Payer_fewestForUpTo 2 0 0 (fun r σ => ∃ I1 : Nat → Nat → Int32, r = some (.int (fcS (paysC n (wv s) (cN s 0)) (cyV (cN s 0)) (I 116) (sfx (cyL (cN s 0)) 4 0)).1) ∧ σ = (nx, sh, P, I1) ∧ xFrm [113, 114, 115, 116] I I1 ∧ I1 116 = (fcS (paysC n (wv s) (cN s 0)) (cyV (cN s 0)) (I 116) (sfx (cyL (cN s 0)) 4 0)).2) 106 [some (.ref 109), some (.int n), some (.int fw), some (.int (nI (sfx (cyL (cN s 0)) 4 0))), some (.int (nI i))] [] (nx, sh, P, I4) := by
                intro I4 fw hF3 z1 z2 z3 hfw hbs3
                subst hfw
                refine x_aload_n dX5_fewestForUpTo_106 rfl ?_
                refine y_getr dX5_fewestForUpTo_107 F_Payer_23 (fxo_109 hx) rfl (fxp_109_3 hx) ?_
                refine x_callV (k2 := 0) (n2 := 0) dX5_fewestForUpTo_110 LV_Payer_87 (m_Rows_step (I := I4) (xrP hx)) rfl rfl (fxo_112 hx) rfl (Nat.le_of_ble_eq_true rfl) (Nat.le_of_ble_eq_true rfl) (Nat.le_of_ble_eq_true rfl) (Nat.le_of_ble_eq_true rfl) ?_
                rintro _ _ ⟨rfl, rfl⟩
                refine x_iinc (v := (nI (i + 1))) dX5_fewestForUpTo_113 rfl (nI_1 _) (Nat.le_of_ble_eq_true rfl) ?_
                try simp only [xst, xst2, xclr, xset, xwide]
                refine x_goto (tgt := 56) dX5_fewestForUpTo_116 rfl ?_
                exact ih56 (i + 1) _ (by omega) (xFrv hF3) (fun c hc => by rw [va_up_no (by decide), va_up_no (by decide), z1, z2]; exact hb c hc) (by rw [va_up_no (by decide), va_up_at, z1, z2, z3]; exact xRwAt.st hlh hr) (by rw [va_up_no (by decide)]; exact hbs3) (by omega)
              refine x_iload_n dX5_fewestForUpTo_62 rfl ?_
              refine x_bipush (v := (-5)) dX5_fewestForUpTo_63 (by decide) ?_
              refine x_icmp_eq (tgt := 79) dX5_fewestForUpTo_65 rfl (fun c65 => ?_) (fun c65 => ?_)
              · have hcn : (fcS (paysC n (wv s) (cN s 0)) (cyV (cN s 0)) (I 116) i).1 = -5 ∨ xSz ((cyV (cN s 0)) i) 4 < (fcS (paysC n (wv s) (cN s 0)) (cyV (cN s 0)) (I 116) i).1 := Or.inl c65
                refine x_aload_n dX5_fewestForUpTo_79 rfl ?_
                refine x_iload_n dX5_fewestForUpTo_80 rfl ?_
                refine x_callV (k2 := 0) (n2 := 0) dX5_fewestForUpTo_81 LV_Payer_90 (m_Payer_paysUpTo (I := I3) (n := n) hx hdd) rfl rfl (fxo_109 hx) rfl (Nat.le_of_ble_eq_true rfl) (Nat.le_of_ble_eq_true rfl) (Nat.le_of_ble_eq_true rfl) (Nat.le_of_ble_eq_true rfl) ?_
                rintro _ _ ⟨rfl, rfl⟩
                rw [show decide (pcP n (wv s) (dgt (cyL (cN s 0)) 4 i) 4 = alN n) = (paysC n (wv s) (cN s 0)) i from rfl]
                refine x_if_eq (tgt := 106) dX5_fewestForUpTo_84 rfl (fun c84 => ?_) (fun c84 => ?_)
                · have hnp : ¬ (paysC n (wv s) (cN s 0)) i = true := by rw [bv_0 c84]; decide
                  exact J106 _ _ hF rfl rfl rfl (by rw [fcS_s, if_neg (fun y => hnp y.2)]) (by rw [fcS_s, if_neg (fun y => hnp y.2)]; exact hbs)
                · have hyp : (paysC n (wv s) (cN s 0)) i = true := bv_1 c84
                  refine x_aload_n dX5_fewestForUpTo_87 rfl ?_
                  refine y_getr dX5_fewestForUpTo_88 F_Payer_23 (fxo_109 hx) rfl (fxp_109_3 hx) ?_
                  refine x_callV (k2 := 0) (n2 := 0) dX5_fewestForUpTo_91 LV_Payer_80 (m_Rows_size (I := I3) (xrP hx)) rfl rfl (fxo_112 hx) rfl (Nat.le_of_ble_eq_true rfl) (Nat.le_of_ble_eq_true rfl) (Nat.le_of_ble_eq_true rfl) (Nat.le_of_ble_eq_true rfl) ?_
                  rintro _ _ ⟨rfl, rfl⟩
                  rw [hsz]
                  refine x_istore_n dX5_fewestForUpTo_94 (Nat.le_of_ble_eq_true rfl) ?_
                  try simp only [xst, xst2, xclr, xset, xwide]
                  refine x_aload_n dX5_fewestForUpTo_95 rfl ?_
                  refine y_getr dX5_fewestForUpTo_96 F_Payer_23 (fxo_109 hx) rfl (fxp_109_3 hx) ?_
                  refine x_aload_n dX5_fewestForUpTo_99 rfl ?_
                  refine y_getr dX5_fewestForUpTo_100 F_Payer_27 (fxo_109 hx) rfl (fxp_109_4 hx) ?_
                  refine x_callV (k2 := 0) (n2 := 0) dX5_fewestForUpTo_103 LV_Payer_83 (m_Rows_copyInto (I := I3) (xrP hx) (fxk_116 hx)) rfl rfl (fxo_112 hx) rfl (Nat.le_of_ble_eq_true rfl) (Nat.le_of_ble_eq_true rfl) (Nat.le_of_ble_eq_true rfl) (Nat.le_of_ble_eq_true rfl) ?_
                  rintro _ _ ⟨rfl, rfl⟩
                  exact J106 _ _ (xFrv hF) (va_up_no (by decide)) (va_up_no (by decide)) (va_up_no (by decide)) (by rw [fcS_s, if_pos ⟨hcn, hyp⟩]) (by rw [fcS_s, if_pos ⟨hcn, hyp⟩, va_up_at, hbs]; exact xTk_c hat)
              · refine x_aload_n dX5_fewestForUpTo_68 rfl ?_
                refine y_getr dX5_fewestForUpTo_69 F_Payer_23 (fxo_109 hx) rfl (fxp_109_3 hx) ?_
                refine x_callV (k2 := 0) (n2 := 0) dX5_fewestForUpTo_72 LV_Payer_80 (m_Rows_size (I := I3) (xrP hx)) rfl rfl (fxo_112 hx) rfl (Nat.le_of_ble_eq_true rfl) (Nat.le_of_ble_eq_true rfl) (Nat.le_of_ble_eq_true rfl) (Nat.le_of_ble_eq_true rfl) ?_
                rintro _ _ ⟨rfl, rfl⟩
                rw [hsz]
                refine x_iload_n dX5_fewestForUpTo_75 rfl ?_
                refine x_icmp_ge (tgt := 106) dX5_fewestForUpTo_76 rfl (fun c76 => ?_) (fun c76 => ?_)
                · skip
                  exact J106 _ _ hF rfl rfl rfl (by rw [fcS_s, if_neg (fun y => y.1.elim c65 (Int32.not_lt.mpr c76))]) (by rw [fcS_s, if_neg (fun y => y.1.elim c65 (Int32.not_lt.mpr c76))]; exact hbs)
                · have hcn : (fcS (paysC n (wv s) (cN s 0)) (cyV (cN s 0)) (I 116) i).1 = -5 ∨ xSz ((cyV (cN s 0)) i) 4 < (fcS (paysC n (wv s) (cN s 0)) (cyV (cN s 0)) (I 116) i).1 := Or.inr (Int32.not_le.mp c76)
                  refine x_aload_n dX5_fewestForUpTo_79 rfl ?_
                  refine x_iload_n dX5_fewestForUpTo_80 rfl ?_
                  refine x_callV (k2 := 0) (n2 := 0) dX5_fewestForUpTo_81 LV_Payer_90 (m_Payer_paysUpTo (I := I3) (n := n) hx hdd) rfl rfl (fxo_109 hx) rfl (Nat.le_of_ble_eq_true rfl) (Nat.le_of_ble_eq_true rfl) (Nat.le_of_ble_eq_true rfl) (Nat.le_of_ble_eq_true rfl) ?_
                  rintro _ _ ⟨rfl, rfl⟩
                  rw [show decide (pcP n (wv s) (dgt (cyL (cN s 0)) 4 i) 4 = alN n) = (paysC n (wv s) (cN s 0)) i from rfl]
                  refine x_if_eq (tgt := 106) dX5_fewestForUpTo_84 rfl (fun c84 => ?_) (fun c84 => ?_)
                  · have hnp : ¬ (paysC n (wv s) (cN s 0)) i = true := by rw [bv_0 c84]; decide
                    exact J106 _ _ hF rfl rfl rfl (by rw [fcS_s, if_neg (fun y => hnp y.2)]) (by rw [fcS_s, if_neg (fun y => hnp y.2)]; exact hbs)
                  · have hyp : (paysC n (wv s) (cN s 0)) i = true := bv_1 c84
                    refine x_aload_n dX5_fewestForUpTo_87 rfl ?_
                    refine y_getr dX5_fewestForUpTo_88 F_Payer_23 (fxo_109 hx) rfl (fxp_109_3 hx) ?_
                    refine x_callV (k2 := 0) (n2 := 0) dX5_fewestForUpTo_91 LV_Payer_80 (m_Rows_size (I := I3) (xrP hx)) rfl rfl (fxo_112 hx) rfl (Nat.le_of_ble_eq_true rfl) (Nat.le_of_ble_eq_true rfl) (Nat.le_of_ble_eq_true rfl) (Nat.le_of_ble_eq_true rfl) ?_
                    rintro _ _ ⟨rfl, rfl⟩
                    rw [hsz]
                    refine x_istore_n dX5_fewestForUpTo_94 (Nat.le_of_ble_eq_true rfl) ?_
                    try simp only [xst, xst2, xclr, xset, xwide]
                    refine x_aload_n dX5_fewestForUpTo_95 rfl ?_
                    refine y_getr dX5_fewestForUpTo_96 F_Payer_23 (fxo_109 hx) rfl (fxp_109_3 hx) ?_
                    refine x_aload_n dX5_fewestForUpTo_99 rfl ?_
                    refine y_getr dX5_fewestForUpTo_100 F_Payer_27 (fxo_109 hx) rfl (fxp_109_4 hx) ?_
                    refine x_callV (k2 := 0) (n2 := 0) dX5_fewestForUpTo_103 LV_Payer_83 (m_Rows_copyInto (I := I3) (xrP hx) (fxk_116 hx)) rfl rfl (fxo_112 hx) rfl (Nat.le_of_ble_eq_true rfl) (Nat.le_of_ble_eq_true rfl) (Nat.le_of_ble_eq_true rfl) (Nat.le_of_ble_eq_true rfl) ?_
                    rintro _ _ ⟨rfl, rfl⟩
                    exact J106 _ _ (xFrv hF) (va_up_no (by decide)) (va_up_no (by decide)) (va_up_no (by decide)) (by rw [fcS_s, if_pos ⟨hcn, hyp⟩]) (by rw [fcS_s, if_pos ⟨hcn, hyp⟩, va_up_at, hbs]; exact xTk_c hat)
        exact K56 _ 0 I1 (Nat.zero_le _) hF1 hb1 hr1 h116 (Nat.lt_succ_self _)
      · have him : c < 4 := cge_f (by decide) hc c4
        refine x_aload_n dX5_fewestForUpTo_7 rfl ?_
        refine y_getr dX5_fewestForUpTo_8 F_Payer_23 (fxo_109 hx) rfl (fxp_109_3 hx) ?_
        have J33 : ∀ (a2 : Int32) (ha2 : a2 = nI (lmN (cN s 0) c)), xX g Y_Payer_fewestForUpTo 2 0 0 (fun r σ => ∃ I1 : Nat → Nat → Int32, r = some (.int (fcS (paysC n (wv s) (cN s 0)) (cyV (cN s 0)) (I 116) (sfx (cyL (cN s 0)) 4 0)).1) ∧ σ = (nx, sh, P, I1) ∧ xFrm [113, 114, 115, 116] I I1 ∧ I1 116 = (fcS (paysC n (wv s) (cN s 0)) (cyV (cN s 0)) (I 116) (sfx (cyL (cN s 0)) 4 0)).2) 33 [some (.ref 109), some (.int n), some (.int (nI c)), none, none] [.int a2, .int 0, .int (nI c), .ref 112] (nx, sh, P, I2) := by
          intro a2 ha2
          refine x_callV (k2 := 0) (n2 := 0) dX5_fewestForUpTo_33 LV_Payer_65 (m_Rows_bound (xrP hx) (p := c) him) rfl rfl (fxo_112 hx) rfl (Nat.le_of_ble_eq_true rfl) (Nat.le_of_ble_eq_true rfl) (Nat.le_of_ble_eq_true rfl) (Nat.le_of_ble_eq_true rfl) ?_
          rintro _ _ ⟨rfl, rfl⟩
          refine x_iinc (v := (nI (c + 1))) dX5_fewestForUpTo_36 rfl (nI_1 _) (Nat.le_of_ble_eq_true rfl) ?_
          try simp only [xst, xst2, xclr, xset, xwide]
          refine x_goto (tgt := 2) dX5_fewestForUpTo_39 rfl ?_
          exact ih2 (c + 1) _ (by omega) (xFrs (xFrs hF)) (fun j hj => by
            by_cases hji : j = c
            · subst hji; exact ⟨by rw [xo (by decide), xs, pyB_0], by rw [xs, ha2]⟩
            · exact ⟨by rw [xo (by decide), xf hji]; exact (hb j (by omega)).1, by rw [xf hji, xo (by decide)]; exact (hb j (by omega)).2⟩) (by omega)
        refine x_iload_n dX5_fewestForUpTo_11 rfl ?_
        refine x_iconst (v := 0) dX5_fewestForUpTo_12 (by decide) ?_
        refine x_aload_n dX5_fewestForUpTo_13 rfl ?_
        refine y_getr dX5_fewestForUpTo_14 F_Payer_34 (fxo_109 hx) rfl (fxp_109_0 hx) ?_
        refine y_getr dX5_fewestForUpTo_17 F_Payer_38 (fxo_65 hx) rfl (fxp_65_1 hx) ?_
        refine x_iload_n dX5_fewestForUpTo_20 rfl ?_
        refine x_callV (k2 := 0) (n2 := 0) dX5_fewestForUpTo_21 LV_Payer_53 (m_Table_has tC2) rfl rfl (fxo_68 hx) rfl (Nat.le_of_ble_eq_true rfl) (Nat.le_of_ble_eq_true rfl) (Nat.le_of_ble_eq_true rfl) (Nat.le_of_ble_eq_true rfl) ?_
        rintro _ _ ⟨rfl, rfl⟩
        rw [hsN (by omega) (by omega)]
        refine x_if_eq (tgt := 32) dX5_fewestForUpTo_24 rfl (fun c24 => ?_) (fun c24 => ?_)
        · refine x_iconst (v := 0) dX5_fewestForUpTo_32 (by decide) ?_
          first
          | (have h9 := of_decide_eq_true (bv_1 c24); exact J33 _ (by unfold lmN; rw [k0, if_pos h9]; rfl))
          | (have h9 := of_decide_eq_false (bv_0 c24); exact J33 _ (by unfold lmN; rw [k0, if_neg h9]; rfl))
        · refine x_bipush (v := 6) dX5_fewestForUpTo_27 (by decide) ?_
          refine x_goto (tgt := 33) dX5_fewestForUpTo_29 rfl ?_
          first
          | (have h9 := of_decide_eq_true (bv_1 c24); exact J33 _ (by unfold lmN; rw [k0, if_pos h9]; rfl))
          | (have h9 := of_decide_eq_false (bv_0 c24); exact J33 _ (by unfold lmN; rw [k0, if_neg h9]; rfl))
  exact K2 _ 0 I (by decide) xFrm.rf (fun c h => absurd h (Nat.not_lt_zero c)) (Nat.lt_succ_self _)

set_option maxHeartbeats 4000000 in
set_option maxRecDepth 100000 in
theorem m_C_carry {g : xG} {nx : Nat} {sh : Nat → Nat × Nat} {P : Nat → Nat → Option Nat} {I : Nat → Nat → Int32} (hx : xFx sh P) {s : Nat → Int32} (hW : xWN nx sh P I s) (hR : RI s) {n k : Int32} : xMet g Y_C_carry 6 0 0 [.ref 64, .int n, .int k] (nx, sh, P, I) (fun r σ => ∃ I1 : Nat → Nat → Int32, r = some (.int (a_carry s n k)) ∧ σ = (nx, sh, P, I1) ∧ xFrm [80, 110, 111, 113, 114, 115, 116] I I1) := by
  refine xMet.of [some (.ref 64), some (.int n), some (.int k)] (by decide +kernel) (Nat.le_of_ble_eq_true rfl) rfl ?_
  obtain ⟨⟨tTape, tCoins, tWares, tBuys, tSlates, tPlans, tBooked⟩, ⟨cTape, cCoins, cWares, cBuys, cSlates, cPlans, cBooked⟩, hW7, hW9, hL⟩ := id hW
  obtain ⟨⟨n0, b0, e0⟩, ⟨n1, b1, e1⟩, ⟨n2, b2, e2⟩, ⟨n3, b3, e3⟩, ⟨n4, b4, e4⟩, ⟨n5, b5, e5⟩, ⟨n6, b6, e6⟩, ⟨n7, b7, e7⟩, ⟨n9, b9, e9⟩⟩ := hR.k
  have k7 : cN s 7 = n7 := cN_of e7 (by omega)
  rw [k7] at tTape cTape
  have k0 : cN s 0 = n0 := cN_of e0 (by omega)
  rw [k0] at tCoins cCoins
  have k1 : cN s 1 = n1 := cN_of e1 (by omega)
  rw [k1] at tWares cWares
  have k3 : cN s 3 = n3 := cN_of e3 (by omega)
  rw [k3] at tBuys cBuys
  have k4 : cN s 4 = n4 := cN_of e4 (by omega)
  rw [k4] at tSlates cSlates
  have k5 : cN s 5 = n5 := cN_of e5 (by omega)
  rw [k5] at tPlans cPlans
  have k6 : cN s 6 = n6 := cN_of e6 (by omega)
  rw [k6] at tBooked cBooked
  refine x_iload_n dX10_carry_0 rfl ?_
  refine x_iconst (v := (-1)) dX10_carry_1 (by decide) ?_
  refine x_iconst (v := 3) dX10_carry_2 (by decide) ?_
  refine x_callS (k2 := 0) (n2 := 0) dX10_carry_3 LS_C_71 m_C_isOutside rfl rfl (Nat.le_of_ble_eq_true rfl) (Nat.le_of_ble_eq_true rfl) (Nat.le_of_ble_eq_true rfl) (Nat.le_of_ble_eq_true rfl) ?_
  rintro _ _ ⟨rfl, rfl⟩
  refine x_if_eq (tgt := 11) dX10_carry_6 rfl (fun c6 => ?_) (fun c6 => ?_)
  · refine x_iload_n dX10_carry_11 rfl ?_
    refine x_iconst (v := 1) dX10_carry_12 (by decide) ?_
    refine x_bipush (v := 30) dX10_carry_13 (by decide) ?_
    refine x_callS (k2 := 0) (n2 := 0) dX10_carry_15 LS_C_71 m_C_isOutside rfl rfl (Nat.le_of_ble_eq_true rfl) (Nat.le_of_ble_eq_true rfl) (Nat.le_of_ble_eq_true rfl) (Nat.le_of_ble_eq_true rfl) ?_
    rintro _ _ ⟨rfl, rfl⟩
    refine x_if_eq (tgt := 24) dX10_carry_18 rfl (fun c18 => ?_) (fun c18 => ?_)
    · refine x_aload_n dX10_carry_24 rfl ?_
      refine y_getr dX10_carry_25 F_C_50 (fxo_64 hx) rfl (fxp_64_5 hx) ?_
      refine x_callV (k2 := 0) (n2 := 0) dX10_carry_28 LV_C_137 (m_Payer_openPurse hx hW hR) rfl rfl (fxo_109 hx) rfl (Nat.le_of_ble_eq_true rfl) (Nat.le_of_ble_eq_true rfl) (Nat.le_of_ble_eq_true rfl) (Nat.le_of_ble_eq_true rfl) ?_
      rintro _ _ ⟨I1, rfl, rfl, hF1, hpy⟩
      have hW1 := hW.fl hF1
      refine x_aload_n dX10_carry_31 rfl ?_
      refine x_aload_n dX10_carry_32 rfl ?_
      refine y_getr dX10_carry_33 F_C_50 (fxo_64 hx) rfl (fxp_64_5 hx) ?_
      refine x_iload_n dX10_carry_36 rfl ?_
      refine x_callV (k2 := 0) (n2 := 0) dX10_carry_37 LV_C_200 (m_Payer_fewestForUpTo (I := I1) (n := n) hx hW1 hR hpy) rfl rfl (fxo_109 hx) rfl (Nat.le_of_ble_eq_true rfl) (Nat.le_of_ble_eq_true rfl) (Nat.le_of_ble_eq_true rfl) (Nat.le_of_ble_eq_true rfl) ?_
      rintro _ _ ⟨I2, rfl, rfl, hF2, hb2⟩
      have hF : xFrm [80, 110, 111, 113, 114, 115, 116] I I2 := hF1.tr (l1 := [80, 110, 111]) (l2 := [113, 114, 115, 116]) hF2
      have hpr : xRf (fcS (paysC n (wv s) (cN s 0)) (cyV (cN s 0)) (I1 116) (sfx (cyL (cN s 0)) 4 0)) (caA s n) := by
        obtain ⟨h1, h30⟩ := o_t c18
        have h0 : 0 ≤ n := Int32.le_trans (by decide) h1
        obtain ⟨z, hz, ez⟩ := i_2 (n := 31) (by decide) ⟨h0, Int32.lt_of_le_of_lt h30 (by decide)⟩
        rw [ez]
        exact ca_br hR hz
      refine x_iload_n dX10_carry_40 rfl ?_
      refine x_callV (k2 := 0) (n2 := 0) dX10_carry_41 LV_C_189 (m_C_ofBest (I := I2) hx (hW.fl hF) hR) rfl rfl (fxo_64 hx) rfl (Nat.le_of_ble_eq_true rfl) (Nat.le_of_ble_eq_true rfl) (Nat.le_of_ble_eq_true rfl) (Nat.le_of_ble_eq_true rfl) ?_
      rintro _ _ ⟨rfl, rfl⟩
      refine x_ireturn dX10_carry_44 rfl nb_int ?_
      exact ⟨I2, by unfold a_carry; rw [if_pos (o_t c6), if_pos (o_t c18), hb2, opK_e hpr (by omega) (o_t c6), k0, e0], rfl, hF⟩
    · refine x_bipush (v := (-2)) dX10_carry_21 (by decide) ?_
      refine x_ireturn dX10_carry_23 rfl nb_int ?_
      exact ⟨I, by unfold a_carry; rw [if_pos (o_t c6), if_neg (o_f c18)], rfl, xFrm.rf⟩
  · refine x_iconst (v := (-1)) dX10_carry_9 (by decide) ?_
    refine x_ireturn dX10_carry_10 rfl nb_int ?_
    exact ⟨I, by unfold a_carry; rw [if_neg (o_f c6)], rfl, xFrm.rf⟩
