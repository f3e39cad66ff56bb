/-! the class: a clause read -/
set_option maxHeartbeats 4000000 in
set_option maxRecDepth 100000 in
theorem m_Reader_readClause {g : xG} {nx : Nat} {sh : Nat → Nat × Nat} {P : Nat → Nat → Option Nat} {I : Nat → Nat → Int32} (hx : xFx sh P) {T : Nat → Int32} {en sp : Nat} (hr : xRr I T en sp) (hnx : 144 ≤ nx) (hT7 : ∀ j, j < en → 0 ≤ T j ∧ T j ≤ 127) : xMet g Y_Reader_readClause 7 2 103 [.ref 97] (nx, sh, P, I) (fun r σ => ∃ (I1 : Nat → Nat → Int32) (sp1 : Nat), (r = some .null ∧ σ = (nx, sh, P, I1) ∧ xFrm [97, 99] I I1 ∧ xRr I1 T en sp1 ∧ clR T en sp none sp1) ∨ ∃ (d : CL) (sh1 : Nat → Nat × Nat) (P1 : Nat → Nat → Option Nat), r = some (.ref nx) ∧ σ = (nx + 2, sh1, P1, I1) ∧ xGr nx sh P I sh1 P1 I1 [97, 99] ∧ xRr I1 T en sp1 ∧ clR T en sp (some d) sp1 ∧ xCla (nx + 2) sh1 P1 I1 nx (nx + 1) d) := by
  refine xMet.of [some (.ref 97), none, none] (by decide +kernel) (Nat.le_of_ble_eq_true rfl) rfl ?_
  refine x_aload_n dX6_readClause_0 rfl ?_
  refine x_callV (k2 := 2) (n2 := 103) dX6_readClause_1 LV_Reader_71 (m_Reader_readWord hx hr) rfl rfl (fxo_97 hx) rfl (Nat.le_of_ble_eq_true rfl) (Nat.le_of_ble_eq_true rfl) (Nat.le_of_ble_eq_true rfl) (Nat.le_of_ble_eq_true rfl) ?_
  rintro _ _ ⟨I1, rfl, rfl, hF1, hr1⟩
  refine x_istore_n dX6_readClause_4 (Nat.le_of_ble_eq_true rfl) ?_
  try simp only [xst, xst2, xclr, xset, xwide]
  refine x_iload_n dX6_readClause_5 rfl ?_
  refine x_iconst (v := (-1)) dX6_readClause_6 (by decide) ?_
  refine x_icmp_eq (tgt := 19) dX6_readClause_7 rfl (fun c7 => ?_) (fun c7 => ?_)
  · have hbad := rw_bad c7
    refine x_aconst_null dX6_readClause_19 ?_
    refine x_areturnN dX6_readClause_20 rfl (Or.inl ⟨_, rfl⟩) ?_
    exact ⟨I1, _, Or.inl ⟨rfl, rfl, hF1.1.mono, hr1, hbad⟩⟩
  · obtain ⟨hk4, hv, hA0⟩ := rw_ok c7
    obtain ⟨k, hk⟩ : ∃ k, clW T en sp = k := ⟨_, rfl⟩
    rw [hk] at hk4 hv hA0
    rw [hv]
    have hcR : ∀ r q, ckR T en sp k r q → clR T en sp r q := fun r q h => by unfold clR; rw [hk]; exact h
    refine x_aload_n dX6_readClause_10 rfl ?_
    refine x_bipush (v := 32) dX6_readClause_11 (by decide) ?_
    refine x_callV (k2 := 2) (n2 := 103) dX6_readClause_13 LV_Reader_52 (m_Reader_take (I := I1) (c := 32) hx hr1 (by decide)) rfl rfl (fxo_97 hx) rfl (Nat.le_of_ble_eq_true rfl) (Nat.le_of_ble_eq_true rfl) (Nat.le_of_ble_eq_true rfl) (Nat.le_of_ble_eq_true rfl) ?_
    rintro _ _ ⟨I2, rfl, rfl, hF2, hr2⟩
    replace hF2 := hF1.tr hF2
    refine x_if_ne (tgt := 21) dX6_readClause_16 rfl (fun c16 => ?_) (fun c16 => ?_)
    · have hm := nbv_1 c16
      have hA : chA T en sp k = (muS T en (rwS T en sp) false 32, false) := by rw [hA0, Bool.eq_false_iff.mpr hm]
      have eN : chN T en sp k = fgS T en (muS T en (rwS T en sp) false 32) false := by unfold chN; rw [hA]
      have eW : chW T en sp k = fgW T en (muS T en (rwS T en sp) false 32) false := by unfold chW; rw [hA]
      have hsp1 : 1 ≤ (chN T en sp k).2 := by rw [eN]; have := fgS_ge (T := T) (en := en) (sp := muS T en (rwS T en sp) false 32) (wr := false); rw [(mu_n hm).2] at this ⊢; omega
      refine x_aload_n dX6_readClause_21 rfl ?_
      refine x_callV (k2 := 2) (n2 := 103) dX6_readClause_22 LV_Reader_74 (m_Reader_readNumber (I := I2) hx hr2) rfl rfl (fxo_97 hx) rfl (Nat.le_of_ble_eq_true rfl) (Nat.le_of_ble_eq_true rfl) (Nat.le_of_ble_eq_true rfl) (Nat.le_of_ble_eq_true rfl) ?_
      rintro _ _ ⟨I3, rfl, rfl, hF3, hr3⟩
      replace hF3 := hF2.tr hF3
      rw [← eN] at hr3
      rw [← eN, ← eW]
      obtain ⟨vn, hvn, evn⟩ : ∃ n, n ≤ 99 ∧ (chN T en sp k).1 = nI n := fgS_bd
      refine x_istore_n dX6_readClause_25 (Nat.le_of_ble_eq_true rfl) ?_
      try simp only [xst, xst2, xclr, xset, xwide]
      refine x_iload_n dX6_readClause_26 rfl ?_
      refine x_iconst (v := (-1)) dX6_readClause_27 (by decide) ?_
      refine x_icmp_ne (tgt := 33) dX6_readClause_28 rfl (fun c28 => ?_) (fun c28 => ?_)
      · have hW : chW T en sp k = false := by
          cases hz : chW T en sp k with
          | false => rfl
          | true => exact absurd (by rw [hz]; rfl) c28
        rw [hW, if_neg Bool.false_ne_true]
        refine x_aload_n dX6_readClause_33 rfl ?_
        refine x_iconst (v := 0) dX6_readClause_34 (by decide) ?_
        refine x_puti dX6_readClause_35 F_Reader_25 T_6_5 (fxo_97 hx) rfl rfl rfl ?_
        obtain ⟨I4, e4⟩ : ∃ J, J = xup I3 97 5 0 := ⟨_, rfl⟩
        rw [← e4]
        have hcd4 : I4 97 5 = nI 0 := by rw [e4]; exact xs
        have hr4 : xRr I4 T en (chN T en sp k).2 := hr3.fr (by rw [e4]; exact xf (by decide)) (by rw [e4]; exact xf (by decide)) (by rw [e4]; exact xup_n (by decide))
        have hF4 : xFrm [97, 99] I I4 := by rw [e4]; exact xFrs hF3.1.mono
        have J61 : ∀ (I6 : Nat → Nat → Int32) (sp6 : Nat) (cd6 : List Int32) (hF6 : xFrm [97, 99] I I6) (hr6 : xRr I6 T en sp6) (hcd6 : I6 97 5 = nI cd6.length) (hlt : cd6.length < 100) (hv6 : ∀ j, j < cd6.length → I6 99 j = cd6.getD j 0) (hcl6 : clR T en sp (some (k, (chN T en sp k).1, cd6)) sp6) (htk : 2 ≤ k → tkE 1 cd6 = some 1), xX g Y_Reader_readClause 7 2 103 (fun r σ => ∃ (I1 : Nat → Nat → Int32) (sp1 : Nat), (r = some .null ∧ σ = (nx, sh, P, I1) ∧ xFrm [97, 99] I I1 ∧ xRr I1 T en sp1 ∧ clR T en sp none sp1) ∨ ∃ (d : CL) (sh1 : Nat → Nat × Nat) (P1 : Nat → Nat → Option Nat), r = some (.ref nx) ∧ σ = (nx + 2, sh1, P1, I1) ∧ xGr nx sh P I sh1 P1 I1 [97, 99] ∧ xRr I1 T en sp1 ∧ clR T en sp (some d) sp1 ∧ xCla (nx + 2) sh1 P1 I1 nx (nx + 1) d) 61 [some (.ref 97), some (.int (nI k)), some (.int (chN T en sp k).1)] [] (nx, sh, P, I6) := by
          intro I6 sp6 cd6 hF6 hr6 hcd6 hlt hv6 hcl6 htk
          refine y_new (k2 := 1) (n2 := 100) (nx1 := nx + 1) dX6_readClause_61 N_Reader_81 rfl (Nat.le_of_ble_eq_true rfl) (Nat.le_of_ble_eq_true rfl) ?_
          have hx := hx.va (v := (2, 0)) (f := fun _ => none) hnx
          refine x_dup dX6_readClause_64 rfl ?_
          refine x_iload_n dX6_readClause_65 rfl ?_
          refine x_iload_n dX6_readClause_66 rfl ?_
          refine x_aload_n dX6_readClause_67 rfl ?_
          refine y_getr dX6_readClause_68 F_Reader_22 (fxo_97 hx) rfl (fxp_97_4 hx) ?_
          refine x_iconst (v := 0) dX6_readClause_71 (by decide) ?_
          refine x_aload_n dX6_readClause_72 rfl ?_
          refine y_geti dX6_readClause_73 F_Reader_25 (fxo_97 hx) rfl ((congrFun (va_up_no (by omega)) 5).trans hcd6) ?_
          refine x_callS (k2 := 1) (n2 := 100) dX6_readClause_76 LS_Reader_83 m_max rfl rfl (Nat.le_of_ble_eq_true rfl) (Nat.le_of_ble_eq_true rfl) (Nat.le_of_ble_eq_true rfl) (Nat.le_of_ble_eq_true rfl) ?_
          rintro _ _ ⟨rfl, rfl⟩
          rw [show (if (0 : Int32) ≤ nI cd6.length then nI cd6.length else 0) = nI cd6.length from if_pos (nI_0le (by omega))]
          refine x_callS (k2 := 0) (n2 := 0) dX6_readClause_79 LS_Reader_86 (m_copyOf (nx := nx + 1) (I := va_up I6 nx (fun _ => 0)) (a := 99) (la := 100) (m := cd6.length) (fxk_99 hx) hlt (by decide) (by omega)) rfl rfl (Nat.le_of_ble_eq_true rfl) (Nat.le_of_ble_eq_true rfl) (Nat.le_of_ble_eq_true rfl) (by omega) ?_
          rintro _ _ ⟨rfl, rfl⟩
          refine x_callI (k2 := 0) (n2 := 0) dX6_readClause_82 LI_Reader_92 (m_Clause_init (cl := nx) (co := nx + 1) (by rw [vu_n (by omega), vu_e])) rfl rfl (Nat.le_of_ble_eq_true rfl) (Nat.le_of_ble_eq_true rfl) (Nat.le_of_ble_eq_true rfl) (Nat.le_of_ble_eq_true rfl) ?_
          rintro _ _ ⟨rfl, rfl⟩
          refine x_areturn dX6_readClause_85 rfl (Or.inl ⟨_, rfl⟩) ?_
          obtain ⟨g1, g2⟩ := cla_new (sh := sh) (P := P) hnx hk4 hlt hv6 htk rfl
          exact ⟨_, sp6, Or.inr ⟨_, _, _, rfl, rfl, (xGr.rf hF6).tr g1.mono (Nat.le_refl _), hr6.fr (by rw [g1.2 97 (by omega) (by decide)]) (by rw [g1.2 97 (by omega) (by decide)]) (g1.2 98 (by omega) (by decide)), hcl6, g2⟩⟩
        refine x_iload_n dX6_readClause_38 rfl ?_
        refine x_iconst (v := 2) dX6_readClause_39 (by decide) ?_
        refine x_icmp_lt (tgt := 61) dX6_readClause_40 rfl (fun c40 => ?_) (fun c40 => ?_)
        · have hk2 : k < 2 := (nI_ltI (b := 2) (by omega) (by decide)).mp c40
          exact J61 I4 _ [] hF4 hr4 hcd4 (by decide) (fun j hj => absurd hj (Nat.not_lt_zero j)) (hcR _ _ (Or.inr (Or.inr (Or.inl ⟨hk2, hW, rfl, rfl⟩)))) (fun z => absurd hk2 (by omega))
        · have hk2 : 2 ≤ k := Nat.not_lt.mp (fun y => c40 (nI_lt y (by decide)))
          refine x_aload_n dX6_readClause_43 rfl ?_
          refine x_bipush (v := 32) dX6_readClause_44 (by decide) ?_
          refine x_callV (k2 := 2) (n2 := 103) dX6_readClause_46 LV_Reader_52 (m_Reader_take (I := I4) (c := 32) hx hr4 (by decide)) rfl rfl (fxo_97 hx) rfl (Nat.le_of_ble_eq_true rfl) (Nat.le_of_ble_eq_true rfl) (Nat.le_of_ble_eq_true rfl) (Nat.le_of_ble_eq_true rfl) ?_
          rintro _ _ ⟨I5, rfl, rfl, hF5, hr5⟩
          have eM : chM T en sp k = muW T en (chN T en sp k).2 false 32 := by unfold chM; rw [hW]
          have eS : chS T en sp k = muS T en (chN T en sp k).2 false 32 := by unfold chS; rw [hW]
          rw [← eS] at hr5
          rw [← eM]
          refine x_if_eq (tgt := 59) dX6_readClause_49 rfl (fun c49 => ?_) (fun c49 => ?_)
          · have hM := nbv_0 c49
            have hbad := hcR _ _ (Or.inr (Or.inr (Or.inr (Or.inl ⟨hk2, hk4, hM, rfl, rfl⟩))))
            refine x_aconst_null dX6_readClause_59 ?_
            refine x_areturnN dX6_readClause_60 rfl (Or.inl ⟨_, rfl⟩) ?_
            exact ⟨I5, _, Or.inl ⟨rfl, rfl, hF4.ts hF5.1.c9, hr5, hbad⟩⟩
          · have hM : chM T en sp k = false := Bool.eq_false_iff.mpr (nbv_1 c49)
            have hcd5 : I5 97 5 = nI 0 := (hF5.2 5 (by decide)).trans hcd4
            have h1s : 0 < chS T en sp k := by rw [eS]; have := muS_ge (T := T) (en := en) (sp := (chN T en sp k).2) (wr := false) (c := 32); omega
            refine x_aload_n dX6_readClause_52 rfl ?_
            refine x_callV (k2 := 2) (n2 := 103) dX6_readClause_53 LV_Reader_77 (m_Reader_readCondition (I := I5) hx hr5 hcd5 h1s hT7) rfl rfl (fxo_97 hx) rfl (Nat.le_of_ble_eq_true rfl) (Nat.le_of_ble_eq_true rfl) (Nat.le_of_ble_eq_true rfl) (Nat.le_of_ble_eq_true rfl) ?_
            rintro _ _ ⟨I7, sp7, b7, rfl, rfl, hF7, hy7, hn7⟩
            refine x_if_ne (tgt := 61) dX6_readClause_56 rfl (fun c56 => ?_) (fun c56 => ?_)
            · obtain ⟨cd1, hp7, hc7⟩ := hy7 (bv_1 c56)
              exact J61 I7 _ cd1 ((hF4.ts hF5.1.c9).ts hF7) hc7.1 hc7.2.2.2.2.1 (by have h1 := hc7.2.2.2.2.2.1; have h2 := hc7.1.2.2.1; have h3 := hc7.1.2.2.2.1; omega) hc7.2.2.2.2.2.2 (hcR _ _ (Or.inr (Or.inr (Or.inr (Or.inr (Or.inr ⟨hk2, hk4, hM, cd1, rfl, hp7⟩)))))) (fun _ => pR_tk hp7)
            · obtain ⟨hp7, hr7⟩ := hn7 (bv_0 c56)
              have hbad := hcR _ _ (Or.inr (Or.inr (Or.inr (Or.inr (Or.inl ⟨hk2, hk4, hM, rfl, hp7⟩)))))
              refine x_aconst_null dX6_readClause_59 ?_
              refine x_areturnN dX6_readClause_60 rfl (Or.inl ⟨_, rfl⟩) ?_
              exact ⟨I7, _, Or.inl ⟨rfl, rfl, (hF4.ts hF5.1.c9).ts hF7, hr7, hbad⟩⟩
      · have hW : chW T en sp k = true := by
          cases hz : chW T en sp k with
          | true => rfl
          | false => rw [hz, if_neg Bool.false_ne_true, evn] at c28; exact absurd c28 (nI_m1 (by omega))
        have hbad := hcR _ _ (ck_n hk4 hW)
        refine x_aconst_null dX6_readClause_31 ?_
        refine x_areturnN dX6_readClause_32 rfl (Or.inl ⟨_, rfl⟩) ?_
        exact ⟨I3, _, Or.inl ⟨rfl, rfl, hF3.1.mono, hr3, hbad⟩⟩
    · have hm := nbv_0 c16
      have hbad := hcR _ _ (ck_a hk4 (by rw [hA0]; exact hm))
      rw [hA0] at hbad
      refine x_aconst_null dX6_readClause_19 ?_
      refine x_areturnN dX6_readClause_20 rfl (Or.inl ⟨_, rfl⟩) ?_
      exact ⟨I2, _, Or.inl ⟨rfl, rfl, hF2.1.mono, hr2, hbad⟩⟩
