theorem xl_M_111 {g : xG} : ∀ s : State, xE g s → vk_R "CoinLandModel" 111 "ckvbdp" (xad g (8 + 4)) s := fun s h => by rw [xad_o (by omega)]; exact h.2.2.2.2.2.2.2.2.1.2.2.2.2.2.2.1
theorem xl_M_117 {g : xG} : ∀ s : State, xE g s → vk_R "CoinLandModel" 117 "<=>" (xad g (8 + 5)) s := fun s h => by rw [xad_o (by omega)]; exact h.2.2.2.2.2.2.2.2.1.2.2.2.2.2.2.2.1
theorem xl_M_129 {g : xG} : ∀ s : State, xE g s → vk_R "CoinLandModel" 129 "top " (xad g (8 + 6)) s := fun s h => by rw [xad_o (by omega)]; exact h.2.2.2.2.2.2.2.2.1.2.2.2.2.2.2.2.2.1
theorem xl_M_135 {g : xG} : ∀ s : State, xE g s → vk_R "CoinLandModel" 135 "cheat " (xad g (8 + 7)) s := fun s h => by rw [xad_o (by omega)]; exact h.2.2.2.2.2.2.2.2.1.2.2.2.2.2.2.2.2.2.1
theorem xl_M_137 {g : xG} : ∀ s : State, xE g s → vk_R "CoinLandModel" 137 "dear " (xad g (8 + 8)) s := fun s h => by rw [xad_o (by omega)]; exact h.2.2.2.2.2.2.2.2.1.2.2.2.2.2.2.2.2.2.2.1
theorem xl_M_142 {g : xG} : ∀ s : State, xE g s → vk_R "CoinLandModel" 142 "mean " (xad g (8 + 9)) s := fun s h => by rw [xad_o (by omega)]; exact h.2.2.2.2.2.2.2.2.1.2.2.2.2.2.2.2.2.2.2.2
theorem xl_Reader_98 {g : xG} : ∀ s : State, xE g s → vk_R "CoinLand$Reader" 98 "top" (xad g (8 + 0)) s := fun s h => by rw [xad_o (by omega)]; exact h.2.2.2.2.2.2.2.2.1.1
theorem xl_Reader_104 {g : xG} : ∀ s : State, xE g s → vk_R "CoinLand$Reader" 104 "cheat" (xad g (8 + 1)) s := fun s h => by rw [xad_o (by omega)]; exact h.2.2.2.2.2.2.2.2.1.2.1
theorem xl_Reader_106 {g : xG} : ∀ s : State, xE g s → vk_R "CoinLand$Reader" 106 "dear" (xad g (8 + 2)) s := fun s h => by rw [xad_o (by omega)]; exact h.2.2.2.2.2.2.2.2.1.2.2.1
theorem xl_Reader_108 {g : xG} : ∀ s : State, xE g s → vk_R "CoinLand$Reader" 108 "mean" (xad g (8 + 3)) s := fun s h => by rw [xad_o (by omega)]; exact h.2.2.2.2.2.2.2.2.1.2.2.2.1
theorem xl_Reader_132 {g : xG} : ∀ s : State, xE g s → vk_R "CoinLand$Reader" 132 "ckvbdp" (xad g (8 + 4)) s := fun s h => by rw [xad_o (by omega)]; exact h.2.2.2.2.2.2.2.2.1.2.2.2.2.1
theorem xl_Reader_138 {g : xG} : ∀ s : State, xE g s → vk_R "CoinLand$Reader" 138 "<=>" (xad g (8 + 5)) s := fun s h => by rw [xad_o (by omega)]; exact h.2.2.2.2.2.2.2.2.1.2.2.2.2.2.1
set_option maxHeartbeats 4000000 in
set_option maxRecDepth 100000 in
theorem r_factorW {g : xG} {nx : Nat} {sh : Nat → Nat × Nat} {P : Nat → Nat → Option Nat} {I : Nat → Nat → Int32} (hx : xFx sh P) (h7 : I 127 7 = 1) : xMet g Y_M_factor 0 0 0 [.ref 127] (nx, sh, P, I) (fun r σ => r = none ∧ σ = (nx, sh, P, I)) := by
  refine xMet.of [some (.ref 127), none, none, none, none] (by decide +kernel) (Nat.le_of_ble_eq_true rfl) rfl ?_
  refine x_aload_n dX11_factor_0 rfl ?_
  refine y_geti dX11_factor_1 F_M_75 (fxo_127 hx) rfl h7 ?_
  refine x_if_eq (tgt := 8) dX11_factor_4 rfl (fun c4 => ?_) (fun c4 => ?_)
  · exact absurd c4 (by decide)
  · refine x_return dX11_factor_7 rfl ?_
    exact ⟨rfl, rfl⟩

set_option maxHeartbeats 4000000 in
set_option maxRecDepth 100000 in
theorem r_everyW {g : xG} {nx : Nat} {sh : Nat → Nat × Nat} {P : Nat → Nat → Option Nat} {I : Nat → Nat → Int32} (hx : xFx sh P) (h7 : I 127 7 = 1) : xMet g Y_M_every 1 0 0 [.ref 127] (nx, sh, P, I) (fun r σ => r = none ∧ σ = (nx, sh, P, I)) := by
  refine xMet.of [some (.ref 127)] (by decide +kernel) (Nat.le_of_ble_eq_true rfl) rfl ?_
  refine x_aload_n dX11_every_0 rfl ?_
  refine x_callV (k2 := 0) (n2 := 0) dX11_every_1 LV_M_102 (r_factorW hx h7) rfl rfl (fxo_127 hx) rfl (Nat.le_of_ble_eq_true rfl) (Nat.le_of_ble_eq_true rfl) (Nat.le_of_ble_eq_true rfl) (Nat.le_of_ble_eq_true rfl) ?_
  rintro _ _ ⟨rfl, rfl⟩
  refine x_aload_n dX11_every_4 rfl ?_
  refine y_geti dX11_every_5 F_M_75 (fxo_127 hx) rfl h7 ?_
  refine x_if_ne (tgt := 43) dX11_every_8 rfl (fun c8 => ?_) (fun c8 => ?_)
  · refine x_return dX11_every_43 rfl ?_
    exact ⟨rfl, rfl⟩
  · exact absurd c8 (by decide)

set_option maxHeartbeats 4000000 in
set_option maxRecDepth 100000 in
theorem r_someW {g : xG} {nx : Nat} {sh : Nat → Nat × Nat} {P : Nat → Nat → Option Nat} {I : Nat → Nat → Int32} (hx : xFx sh P) (h7 : I 127 7 = 1) : xMet g Y_M_some 2 0 0 [.ref 127] (nx, sh, P, I) (fun r σ => r = none ∧ σ = (nx, sh, P, I)) := by
  refine xMet.of [some (.ref 127)] (by decide +kernel) (Nat.le_of_ble_eq_true rfl) rfl ?_
  refine x_aload_n dX11_some_0 rfl ?_
  refine x_callV (k2 := 0) (n2 := 0) dX11_some_1 LV_M_122 (r_everyW hx h7) rfl rfl (fxo_127 hx) rfl (Nat.le_of_ble_eq_true rfl) (Nat.le_of_ble_eq_true rfl) (Nat.le_of_ble_eq_true rfl) (Nat.le_of_ble_eq_true rfl) ?_
  rintro _ _ ⟨rfl, rfl⟩
  refine x_aload_n dX11_some_4 rfl ?_
  refine y_geti dX11_some_5 F_M_75 (fxo_127 hx) rfl h7 ?_
  refine x_if_ne (tgt := 43) dX11_some_8 rfl (fun c8 => ?_) (fun c8 => ?_)
  · refine x_return dX11_some_43 rfl ?_
    exact ⟨rfl, rfl⟩
  · exact absurd c8 (by decide)

set_option maxHeartbeats 4000000 in
set_option maxRecDepth 100000 in
theorem r_factorX {g : xG} {nx : Nat} {sh : Nat → Nat × Nat} {P : Nat → Nat → Option Nat} {I : Nat → Nat → Int32} (hx : xFx sh P) {T : Nat → Int32} {en sp op ac mm : Nat} (hp : xPa I T en sp false op ac mm) (ho5 : op ≤ 5) {d d1 d2 : Nat} (hd0 : 5 ≤ d) (hd1 : op < 5 → d1 + 1 ≤ d) (hd2 : op < 5 → d2 + 1 ≤ d) (ihF : op < 5 → ∀ (nx : Nat) (sh : Nat → Nat × Nat) (P : Nat → Nat → Option Nat) (I : Nat → Nat → Int32) (T : Nat → Int32) (en sp op1 ac mm : Nat), xFx sh P → xPa I T en sp false op1 ac mm → op1 = op + 1 → xMet g Y_M_factor d1 0 0 [.ref 127] (nx, sh, P, I) (xPq nx sh P I T en sp op1 ac mm (xRF T en sp op1))) (ihS : op < 5 → ∀ (nx : Nat) (sh : Nat → Nat × Nat) (P : Nat → Nat → Option Nat) (I : Nat → Nat → Int32) (T : Nat → Int32) (en sp op1 ac mm : Nat), xFx sh P → xPa I T en sp false op1 ac mm → op1 = op + 1 → xMet g Y_M_some d2 0 0 [.ref 127] (nx, sh, P, I) (xPq nx sh P I T en sp op1 ac mm (fun sp1 wr1 L => xRS T en sp op1 sp1 wr1 L ∧ (wr1 = false → ¬ hrT T en sp1 = 38 ∧ ¬ hrT T en sp1 = 124)))) : xMet g Y_M_factor d 0 0 [.ref 127] (nx, sh, P, I) (xPq nx sh P I T en sp op ac mm (xRF T en sp op)) := by
  refine xMet.of [some (.ref 127), none, none, none, none] (by decide +kernel) (Nat.le_of_ble_eq_true rfl) rfl ?_
  obtain ⟨hq, h8, h4, ha4, hm, hms, hse, hT⟩ := id hp
  obtain ⟨h5, h6, h7, hen, hsp⟩ := id hq
  refine x_aload_n dX11_factor_0 rfl ?_
  refine y_geti dX11_factor_1 F_M_75 (fxo_127 hx) rfl h7 ?_
  refine x_if_eq (tgt := 8) dX11_factor_4 rfl (fun c4 => ?_) (fun c4 => ?_)
  · refine x_aload_n dX11_factor_8 rfl ?_
    refine x_callV (k2 := 0) (n2 := 0) dX11_factor_9 LV_M_79 (q_here hx hp) rfl rfl (fxo_127 hx) rfl (by omega) (Nat.le_of_ble_eq_true rfl) (Nat.le_of_ble_eq_true rfl) (Nat.le_of_ble_eq_true rfl) ?_
    rintro _ _ ⟨rfl, rfl⟩
    refine x_istore_n dX11_factor_12 (Nat.le_of_ble_eq_true rfl) ?_
    try simp only [xst, xst2, xclr, xset, xwide]
    have J25 : ∀ (hc : hrT T en sp = 33 ∨ hrT T en sp = 40), xX g Y_M_factor d 0 0 (xPq nx sh P I T en sp op ac mm (xRF T en sp op)) 25 [some (.ref 127), some (.int (hrT T en sp)), none, none, none] [] (nx, sh, P, I) := by
      intro hc
      refine x_aload_n dX11_factor_25 rfl ?_
      refine x_aload_n dX11_factor_26 rfl ?_
      refine y_geti dX11_factor_27 F_M_99 (fxo_127 hx) rfl h8 ?_
      refine x_iconst (v := 5) dX11_factor_30 (by decide) ?_
      refine x_icmp_ne (tgt := 38) dX11_factor_31 rfl (fun c31 => ?_) (fun c31 => ?_)
      · have ho : op < 5 := by have h9 : ¬ op = 5 := fun z => c31 (by rw [z]; rfl); omega
        skip
        refine x_iconst (v := 0) dX11_factor_38 (by decide) ?_
        refine x_puti dX11_factor_39 F_M_75 T_11_7 (fxo_127 hx) rfl rfl rfl ?_
        refine x_aload_n dX11_factor_42 rfl ?_
        refine x_dup dX11_factor_43 rfl ?_
        refine y_geti dX11_factor_44 F_M_99 (fxo_127 hx) rfl (xup_at.trans ((if_neg (by decide)).trans h8)) ?_
        refine x_iconst (v := 1) dX11_factor_47 (by decide) ?_
        refine x_iadd dX11_factor_48 ?_
        rw [nI_1]
        refine x_puti dX11_factor_49 F_M_99 T_11_8 (fxo_127 hx) rfl rfl rfl ?_
        refine x_aload_n dX11_factor_52 rfl ?_
        refine x_dup dX11_factor_53 rfl ?_
        refine y_geti dX11_factor_54 F_M_69 (fxo_127 hx) rfl (xup_at.trans ((if_neg (by decide)).trans (xup_at.trans ((if_neg (by decide)).trans h5)))) ?_
        refine x_aload_n dX11_factor_57 rfl ?_
        refine y_geti dX11_factor_58 F_M_75 (fxo_127 hx) rfl (xup_at.trans ((if_neg (by decide)).trans (xup_at.trans (if_pos ⟨rfl, rfl⟩)))) ?_
        refine x_if_eq (tgt := 68) dX11_factor_61 rfl (fun c61 => ?_) (fun c61 => ?_)
        · skip
          refine x_iconst (v := 1) dX11_factor_68 (by decide) ?_
          refine x_iadd dX11_factor_69 ?_
          rw [nI_1]
          refine x_puti dX11_factor_70 F_M_69 T_11_5 (fxo_127 hx) rfl rfl rfl ?_
          have hlt : sp < en := hrT_lt (T := T) (by rcases hc with z | z <;> rw [z] <;> decide)
          obtain ⟨I0, hI0⟩ : ∃ I0, I0 = xup (xup (xup I 127 7 0) 127 8 (nI (op + 1))) 127 5 (nI (sp + 1)) := ⟨_, rfl⟩
          refine y_st (I' := I0) hI0.symm ?_
          have f128 : I0 128 = I 128 := by rw [hI0, xup_n (by decide), xup_n (by decide), xup_n (by decide)]
          have f5 : I0 127 5 = nI (sp + 1) := by rw [hI0, xup_at, if_pos ⟨rfl, rfl⟩]
          have f8 : I0 127 8 = nI (op + 1) := by rw [hI0, xup_at, if_neg (by decide), xup_at, if_pos ⟨rfl, rfl⟩]
          have f7 : I0 127 7 = 0 := by rw [hI0, xup_at, if_neg (by decide), xup_at, if_neg (by decide), xup_at, if_pos ⟨rfl, rfl⟩]
          have f6 : I0 127 6 = nI en := by rw [hI0, xup_at, if_neg (by decide), xup_at, if_neg (by decide), xup_at, if_neg (by decide)]; exact h6
          have f4 : I0 127 4 = nI ac := by rw [hI0, xup_at, if_neg (by decide), xup_at, if_neg (by decide), xup_at, if_neg (by decide)]; exact h4
          have t0 : xPt I I0 ac mm [] := ⟨by rw [hI0]; exact xFrs (xFrs (xFrs xFrm.rf)), by rw [hI0]; exact xFdx (xFdx (xFdx xFd.rf)), by rw [f128]; exact xWr.rf hm⟩
          have p0 : xPa I0 T en (sp + 1) false (op + 1) ac mm := ⟨⟨f5, f6, f7, hen, by omega⟩, f8, f4, ha4, by rw [f128]; exact hm, by omega, by omega, by rw [f128]; exact hT⟩
          refine x_iload_n dX11_factor_73 rfl ?_
          refine x_bipush (v := 33) dX11_factor_74 (by decide) ?_
          refine x_icmp_ne (tgt := 91) dX11_factor_76 rfl (fun c76 => ?_) (fun c76 => ?_)
          · have h40 : hrT T en sp = 40 := hc.elim (fun z => absurd z c76) id
            refine x_aload_n dX11_factor_91 rfl ?_
            refine x_callV (k2 := 0) (n2 := 0) dX11_factor_92 LV_M_108 (ihS ho _ _ _ I0 T en (sp + 1) (op + 1) ac mm hx p0 rfl) rfl rfl (fxo_127 hx) rfl (by first | omega | exact hd2 ho) (Nat.le_of_ble_eq_true rfl) (Nat.le_of_ble_eq_true rfl) (Nat.le_of_ble_eq_true rfl) ?_
            rintro _ _ ⟨I1, sp1, wr1, L, rfl, rfl, t1, p1, hl1, hR1, hE1⟩
            refine x_aload_n dX11_factor_95 rfl ?_
            refine x_bipush (v := 41) dX11_factor_96 (by decide) ?_
            refine x_callV (k2 := 0) (n2 := 0) dX11_factor_98 LV_M_92 (q_must (I := I1) (c := 41) hx p1 (by decide)) rfl rfl (fxo_127 hx) rfl (by omega) (Nat.le_of_ble_eq_true rfl) (Nat.le_of_ble_eq_true rfl) (Nat.le_of_ble_eq_true rfl) ?_
            rintro _ _ ⟨I2, rfl, rfl, t2, pL⟩
            refine x_aload_n dX11_factor_101 rfl ?_
            refine x_dup dX11_factor_102 rfl ?_
            refine y_geti dX11_factor_103 F_M_99 (fxo_127 hx) rfl pL.2.1 ?_
            refine x_iconst (v := 1) dX11_factor_106 (by decide) ?_
            refine x_isub dX11_factor_107 ?_
            rw [nI_pred]
            refine x_puti dX11_factor_108 F_M_99 T_11_8 (fxo_127 hx) rfl rfl rfl ?_
            obtain ⟨I5, hI5⟩ : ∃ I5, I5 = xup I2 127 8 (nI op) := ⟨_, rfl⟩
            refine y_st (I' := I5) hI5.symm ?_
            have g128 : I5 128 = I2 128 := by rw [hI5, xup_n (by decide)]
            have gd : ∀ j, j ≠ 8 → I5 127 j = I2 127 j := fun j hj => by rw [hI5, xup_at, if_neg (fun z => hj z.2)]
            have g8 : I5 127 8 = nI op := by rw [hI5, xup_at, if_pos ⟨rfl, rfl⟩]
            have gt : xPt I2 I5 ac (mm + (L).length) [] := ⟨by rw [hI5]; exact xFrs xFrm.rf, by rw [hI5]; exact xFdx xFd.rf, by rw [g128]; exact xWr.rf pL.2.2.2.2.1⟩
            have gp : xPa I5 T en (muS T en sp1 wr1 41) (muW T en sp1 wr1 41) op ac (mm + (L).length) := by
              obtain ⟨⟨z1, z2, z3, z4, z5⟩, -, z6, z7, z8, z9, z10, z11⟩ := pL
              exact ⟨⟨(gd 5 (by decide)).trans z1, (gd 6 (by decide)).trans z2, (gd 7 (by decide)).trans z3, z4, z5⟩, g8, (gd 4 (by decide)).trans z6, z7, by rw [g128]; exact z8, z9, z10, by rw [g128]; exact z11⟩
            refine x_return dX11_factor_111 rfl ?_
            have g2 := (t0.tr (L := []) ha4 t1).tr (L := [] ++ L) ha4 t2
            rw [List.append_nil] at g2
            have gg := g2.tr (L := [] ++ L) ha4 gt
            rw [List.append_nil] at gg
            exact ⟨I5, _, _, L, rfl, rfl, gg, gp, by have := muS_ge (T := T) (en := en) (sp := sp1) (wr := wr1) (c := 41); omega, xRF.par ho h40 hR1 hE1⟩
          · have h33 : hrT T en sp = 33 := c76
            refine x_aload_n dX11_factor_79 rfl ?_
            refine x_callV (k2 := 0) (n2 := 0) dX11_factor_80 LV_M_102 (ihF ho _ _ _ I0 T en (sp + 1) (op + 1) ac mm hx p0 rfl) rfl rfl (fxo_127 hx) rfl (by first | omega | exact hd1 ho) (Nat.le_of_ble_eq_true rfl) (Nat.le_of_ble_eq_true rfl) (Nat.le_of_ble_eq_true rfl) ?_
            rintro _ _ ⟨I1, sp1, wr1, L, rfl, rfl, t1, p1, hl1, hR1⟩
            refine x_aload_n dX11_factor_83 rfl ?_
            refine x_iconst (v := (-1)) dX11_factor_84 (by decide) ?_
            refine x_callV (k2 := 0) (n2 := 0) dX11_factor_85 LV_M_105 (q_emits (I := I1) (x := -1) hx p1 (by omega)) rfl rfl (fxo_127 hx) rfl (by omega) (Nat.le_of_ble_eq_true rfl) (Nat.le_of_ble_eq_true rfl) (Nat.le_of_ble_eq_true rfl) ?_
            rintro _ _ ⟨I2, rfl, rfl, t2, pL⟩
            rw [Nat.add_assoc, ← List.length_append] at pL
            refine x_goto (tgt := 101) dX11_factor_88 rfl ?_
            refine x_aload_n dX11_factor_101 rfl ?_
            refine x_dup dX11_factor_102 rfl ?_
            refine y_geti dX11_factor_103 F_M_99 (fxo_127 hx) rfl pL.2.1 ?_
            refine x_iconst (v := 1) dX11_factor_106 (by decide) ?_
            refine x_isub dX11_factor_107 ?_
            rw [nI_pred]
            refine x_puti dX11_factor_108 F_M_99 T_11_8 (fxo_127 hx) rfl rfl rfl ?_
            obtain ⟨I5, hI5⟩ : ∃ I5, I5 = xup I2 127 8 (nI op) := ⟨_, rfl⟩
            refine y_st (I' := I5) hI5.symm ?_
            have g128 : I5 128 = I2 128 := by rw [hI5, xup_n (by decide)]
            have gd : ∀ j, j ≠ 8 → I5 127 j = I2 127 j := fun j hj => by rw [hI5, xup_at, if_neg (fun z => hj z.2)]
            have g8 : I5 127 8 = nI op := by rw [hI5, xup_at, if_pos ⟨rfl, rfl⟩]
            have gt : xPt I2 I5 ac (mm + (L ++ emL wr1 (-1)).length) [] := ⟨by rw [hI5]; exact xFrs xFrm.rf, by rw [hI5]; exact xFdx xFd.rf, by rw [g128]; exact xWr.rf pL.2.2.2.2.1⟩
            have gp : xPa I5 T en sp1 wr1 op ac (mm + (L ++ emL wr1 (-1)).length) := by
              obtain ⟨⟨z1, z2, z3, z4, z5⟩, -, z6, z7, z8, z9, z10, z11⟩ := pL
              exact ⟨⟨(gd 5 (by decide)).trans z1, (gd 6 (by decide)).trans z2, (gd 7 (by decide)).trans z3, z4, z5⟩, g8, (gd 4 (by decide)).trans z6, z7, by rw [g128]; exact z8, z9, z10, by rw [g128]; exact z11⟩
            refine x_return dX11_factor_111 rfl ?_
            have gg := ((t0.tr (L := []) ha4 t1).tr (L := [] ++ L) ha4 t2).tr (L := [] ++ L ++ emL wr1 (-1)) ha4 gt
            rw [List.append_nil] at gg
            exact ⟨I5, sp1, wr1, L ++ emL wr1 (-1), rfl, rfl, gg, gp, by rw [List.length_append]; have := emL_l (wr := wr1) (x := -1); omega, xRF.not ho h33 hR1⟩
        · exact absurd rfl c61
      · have ho5 : op = 5 := (nI_eqI (by omega) (by decide)).mp c31
        skip
        refine x_iconst (v := 1) dX11_factor_34 (by decide) ?_
        refine x_goto (tgt := 39) dX11_factor_35 rfl ?_
        refine x_puti dX11_factor_39 F_M_75 T_11_7 (fxo_127 hx) rfl rfl rfl ?_
        refine x_aload_n dX11_factor_42 rfl ?_
        refine x_dup dX11_factor_43 rfl ?_
        refine y_geti dX11_factor_44 F_M_99 (fxo_127 hx) rfl (xup_at.trans ((if_neg (by decide)).trans h8)) ?_
        refine x_iconst (v := 1) dX11_factor_47 (by decide) ?_
        refine x_iadd dX11_factor_48 ?_
        rw [nI_1]
        refine x_puti dX11_factor_49 F_M_99 T_11_8 (fxo_127 hx) rfl rfl rfl ?_
        refine x_aload_n dX11_factor_52 rfl ?_
        refine x_dup dX11_factor_53 rfl ?_
        refine y_geti dX11_factor_54 F_M_69 (fxo_127 hx) rfl (xup_at.trans ((if_neg (by decide)).trans (xup_at.trans ((if_neg (by decide)).trans h5)))) ?_
        refine x_aload_n dX11_factor_57 rfl ?_
        refine y_geti dX11_factor_58 F_M_75 (fxo_127 hx) rfl (xup_at.trans ((if_neg (by decide)).trans (xup_at.trans (if_pos ⟨rfl, rfl⟩)))) ?_
        refine x_if_eq (tgt := 68) dX11_factor_61 rfl (fun c61 => ?_) (fun c61 => ?_)
        · exact absurd c61 (by decide)
        · skip
          refine x_iconst (v := 0) dX11_factor_64 (by decide) ?_
          refine x_goto (tgt := 69) dX11_factor_65 rfl ?_
          refine x_iadd dX11_factor_69 ?_
          rw [Int32.add_zero]
          refine x_puti dX11_factor_70 F_M_69 T_11_5 (fxo_127 hx) rfl rfl rfl ?_
          obtain ⟨I0, hI0⟩ : ∃ I0, I0 = xup (xup (xup I 127 7 1) 127 8 (nI (op + 1))) 127 5 (nI sp) := ⟨_, rfl⟩
          refine y_st (I' := I0) hI0.symm ?_
          have f128 : I0 128 = I 128 := by rw [hI0, xup_n (by decide), xup_n (by decide), xup_n (by decide)]
          have f5 : I0 127 5 = nI sp := by rw [hI0, xup_at, if_pos ⟨rfl, rfl⟩]
          have f8 : I0 127 8 = nI (op + 1) := by rw [hI0, xup_at, if_neg (by decide), xup_at, if_pos ⟨rfl, rfl⟩]
          have f7 : I0 127 7 = 1 := by rw [hI0, xup_at, if_neg (by decide), xup_at, if_neg (by decide), xup_at, if_pos ⟨rfl, rfl⟩]
          have f6 : I0 127 6 = nI en := by rw [hI0, xup_at, if_neg (by decide), xup_at, if_neg (by decide), xup_at, if_neg (by decide)]; exact h6
          have f4 : I0 127 4 = nI ac := by rw [hI0, xup_at, if_neg (by decide), xup_at, if_neg (by decide), xup_at, if_neg (by decide)]; exact h4
          have t0 : xPt I I0 ac mm [] := ⟨by rw [hI0]; exact xFrs (xFrs (xFrs xFrm.rf)), by rw [hI0]; exact xFdx (xFdx (xFdx xFd.rf)), by rw [f128]; exact xWr.rf hm⟩
          have p0 : xPa I0 T en sp true (op + 1) ac mm := ⟨⟨f5, f6, f7, hen, by omega⟩, f8, f4, ha4, by rw [f128]; exact hm, by omega, by omega, by rw [f128]; exact hT⟩
          refine x_iload_n dX11_factor_73 rfl ?_
          refine x_bipush (v := 33) dX11_factor_74 (by decide) ?_
          refine x_icmp_ne (tgt := 91) dX11_factor_76 rfl (fun c76 => ?_) (fun c76 => ?_)
          · have h40 : hrT T en sp = 40 := hc.elim (fun z => absurd z c76) id
            refine x_aload_n dX11_factor_91 rfl ?_
            refine x_callV (k2 := 0) (n2 := 0) dX11_factor_92 LV_M_108 (r_someW (I := I0) hx f7) rfl rfl (fxo_127 hx) rfl (by first | omega | exact hd2 ho) (Nat.le_of_ble_eq_true rfl) (Nat.le_of_ble_eq_true rfl) (Nat.le_of_ble_eq_true rfl) ?_
            rintro _ _ ⟨rfl, rfl⟩
            refine x_aload_n dX11_factor_95 rfl ?_
            refine x_bipush (v := 41) dX11_factor_96 (by decide) ?_
            refine x_callV (k2 := 0) (n2 := 0) dX11_factor_98 LV_M_92 (q_must (I := I0) (c := 41) hx p0 (by decide)) rfl rfl (fxo_127 hx) rfl (by omega) (Nat.le_of_ble_eq_true rfl) (Nat.le_of_ble_eq_true rfl) (Nat.le_of_ble_eq_true rfl) ?_
            rintro _ _ ⟨I2, rfl, rfl, t2, pL⟩
            refine x_aload_n dX11_factor_101 rfl ?_
            refine x_dup dX11_factor_102 rfl ?_
            refine y_geti dX11_factor_103 F_M_99 (fxo_127 hx) rfl pL.2.1 ?_
            refine x_iconst (v := 1) dX11_factor_106 (by decide) ?_
            refine x_isub dX11_factor_107 ?_
            rw [nI_pred]
            refine x_puti dX11_factor_108 F_M_99 T_11_8 (fxo_127 hx) rfl rfl rfl ?_
            obtain ⟨I5, hI5⟩ : ∃ I5, I5 = xup I2 127 8 (nI op) := ⟨_, rfl⟩
            refine y_st (I' := I5) hI5.symm ?_
            have g128 : I5 128 = I2 128 := by rw [hI5, xup_n (by decide)]
            have gd : ∀ j, j ≠ 8 → I5 127 j = I2 127 j := fun j hj => by rw [hI5, xup_at, if_neg (fun z => hj z.2)]
            have g8 : I5 127 8 = nI op := by rw [hI5, xup_at, if_pos ⟨rfl, rfl⟩]
            have gt : xPt I2 I5 ac (mm + (([] : List Int32)).length) [] := ⟨by rw [hI5]; exact xFrs xFrm.rf, by rw [hI5]; exact xFdx xFd.rf, by rw [g128]; exact xWr.rf pL.2.2.2.2.1⟩
            have gp : xPa I5 T en sp true op ac (mm + (([] : List Int32)).length) := by
              obtain ⟨⟨z1, z2, z3, z4, z5⟩, -, z6, z7, z8, z9, z10, z11⟩ := pL
              exact ⟨⟨(gd 5 (by decide)).trans z1, (gd 6 (by decide)).trans z2, (gd 7 (by decide)).trans z3, z4, z5⟩, g8, (gd 4 (by decide)).trans z6, z7, by rw [g128]; exact z8, z9, z10, by rw [g128]; exact z11⟩
            refine x_return dX11_factor_111 rfl ?_
            exact ⟨I5, sp, true, [], rfl, rfl, (t0.tr ha4 t2).tr (L := [] ++ []) ha4 gt, gp, Nat.le_refl _, by have h9 := xRF.deep hc; rw [← ho5] at h9; exact h9⟩
          · have h33 : hrT T en sp = 33 := c76
            refine x_aload_n dX11_factor_79 rfl ?_
            refine x_callV (k2 := 0) (n2 := 0) dX11_factor_80 LV_M_102 (r_factorW (I := I0) hx f7) rfl rfl (fxo_127 hx) rfl (by first | omega | exact hd1 ho) (Nat.le_of_ble_eq_true rfl) (Nat.le_of_ble_eq_true rfl) (Nat.le_of_ble_eq_true rfl) ?_
            rintro _ _ ⟨rfl, rfl⟩
            refine x_aload_n dX11_factor_83 rfl ?_
            refine x_iconst (v := (-1)) dX11_factor_84 (by decide) ?_
            refine x_callV (k2 := 0) (n2 := 0) dX11_factor_85 LV_M_105 (q_emits (I := I0) (x := -1) hx p0 (fun z => by cases z)) rfl rfl (fxo_127 hx) rfl (by omega) (Nat.le_of_ble_eq_true rfl) (Nat.le_of_ble_eq_true rfl) (Nat.le_of_ble_eq_true rfl) ?_
            rintro _ _ ⟨I2, rfl, rfl, t2, pL⟩
            refine x_goto (tgt := 101) dX11_factor_88 rfl ?_
            refine x_aload_n dX11_factor_101 rfl ?_
            refine x_dup dX11_factor_102 rfl ?_
            refine y_geti dX11_factor_103 F_M_99 (fxo_127 hx) rfl pL.2.1 ?_
            refine x_iconst (v := 1) dX11_factor_106 (by decide) ?_
            refine x_isub dX11_factor_107 ?_
            rw [nI_pred]
            refine x_puti dX11_factor_108 F_M_99 T_11_8 (fxo_127 hx) rfl rfl rfl ?_
            obtain ⟨I5, hI5⟩ : ∃ I5, I5 = xup I2 127 8 (nI op) := ⟨_, rfl⟩
            refine y_st (I' := I5) hI5.symm ?_
            have g128 : I5 128 = I2 128 := by rw [hI5, xup_n (by decide)]
            have gd : ∀ j, j ≠ 8 → I5 127 j = I2 127 j := fun j hj => by rw [hI5, xup_at, if_neg (fun z => hj z.2)]
            have g8 : I5 127 8 = nI op := by rw [hI5, xup_at, if_pos ⟨rfl, rfl⟩]
            have gt : xPt I2 I5 ac (mm + (([] : List Int32)).length) [] := ⟨by rw [hI5]; exact xFrs xFrm.rf, by rw [hI5]; exact xFdx xFd.rf, by rw [g128]; exact xWr.rf pL.2.2.2.2.1⟩
            have gp : xPa I5 T en sp true op ac (mm + (([] : List Int32)).length) := by
              obtain ⟨⟨z1, z2, z3, z4, z5⟩, -, z6, z7, z8, z9, z10, z11⟩ := pL
              exact ⟨⟨(gd 5 (by decide)).trans z1, (gd 6 (by decide)).trans z2, (gd 7 (by decide)).trans z3, z4, z5⟩, g8, (gd 4 (by decide)).trans z6, z7, by rw [g128]; exact z8, z9, z10, by rw [g128]; exact z11⟩
            refine x_return dX11_factor_111 rfl ?_
            exact ⟨I5, sp, true, [], rfl, rfl, (t0.tr ha4 t2).tr (L := [] ++ []) ha4 gt, gp, Nat.le_refl _, by have h9 := xRF.deep hc; rw [← ho5] at h9; exact h9⟩
    refine x_iload_n dX11_factor_13 rfl ?_
    refine x_bipush (v := 33) dX11_factor_14 (by decide) ?_
    refine x_icmp_eq (tgt := 25) dX11_factor_16 rfl (fun c16 => ?_) (fun c16 => ?_)
    · first | exact J25 (Or.inl c16) | exact J25 (Or.inr c22)
    · refine x_iload_n dX11_factor_19 rfl ?_
      refine x_bipush (v := 40) dX11_factor_20 (by decide) ?_
      refine x_icmp_ne (tgt := 112) dX11_factor_22 rfl (fun c22 => ?_) (fun c22 => ?_)
      · have hc : ¬ (hrT T en sp = 33 ∨ hrT T en sp = 40) := fun z => z.elim c16 c22
        refine x_aload_n dX11_factor_112 rfl ?_
        refine x_ldcS (a := 8 + 4) dX11_factor_113 xl_M_111 ?_
        refine x_callV (k2 := 0) (n2 := 0) dX11_factor_115 LV_M_113 (q_among (i := 4) hx (by decide) hp) rfl rfl (fxo_127 hx) rfl (by omega) (Nat.le_of_ble_eq_true rfl) (Nat.le_of_ble_eq_true rfl) (Nat.le_of_ble_eq_true rfl) ?_
        rintro _ _ ⟨I1, rfl, rfl, t1, p1⟩
        rw [show (amS T en 4 sp (xTl.getD 4 0) 0) = tsA T en sp from rfl] at p1
        rw [show (amS T en 4 sp (xTl.getD 4 0) 0).1 = (tsA T en sp).1 from rfl]
        refine x_istore_n dX11_factor_118 (Nat.le_of_ble_eq_true rfl) ?_
        try simp only [xst, xst2, xclr, xset, xwide]
        have J130 : ∀ (x : Int32) (hxv : x = bv (decide ((tsA T en sp).1 = -1))), xX g Y_M_factor d 0 0 (xPq nx sh P I T en sp op ac mm (xRF T en sp op)) 130 [some (.ref 127), some (.int (hrT T en sp)), some (.int (tsA T en sp).1), none, none] [.int x, .ref 127] (nx, sh, P, I1) := by
          intro x hxv
          rw [hxv]
          refine x_puti dX11_factor_130 F_M_75 T_11_7 (fxo_127 hx) rfl bv_nb bv_fit ?_
          obtain ⟨t2, p2⟩ := p1.wr (decide ((tsA T en sp).1 = -1))
          obtain ⟨I2, hI2⟩ : ∃ I2, I2 = xup I1 127 7 (bv (decide ((tsA T en sp).1 = -1))) := ⟨_, rfl⟩
          rw [← hI2] at t2 p2
          refine y_st (I' := I2) hI2.symm ?_
          refine x_aload_n dX11_factor_133 rfl ?_
          refine y_geti dX11_factor_134 F_M_75 (fxo_127 hx) rfl p2.1.2.2.1 ?_
          refine x_if_eq (tgt := 144) dX11_factor_137 rfl (fun c137 => ?_) (fun c137 => ?_)
          · have hwa : ¬ (tsA T en sp).1 = -1 := of_decide_eq_false (bv_0 c137)
            refine x_aload_n dX11_factor_144 rfl ?_
            refine x_ldcS (a := 8 + 5) dX11_factor_145 xl_M_117 ?_
            refine x_callV (k2 := 0) (n2 := 0) dX11_factor_147 LV_M_113 (q_among (i := 5) hx (by decide) p2) rfl rfl (fxo_127 hx) rfl (by omega) (Nat.le_of_ble_eq_true rfl) (Nat.le_of_ble_eq_true rfl) (Nat.le_of_ble_eq_true rfl) ?_
            rintro _ _ ⟨I3, rfl, rfl, t3, p3⟩
            rw [show amS T en 5 (tsA T en sp).2 (xTl.getD 5 0) 0 = tsB T en sp from rfl] at p3
            rw [show (amS T en 5 (tsA T en sp).2 (xTl.getD 5 0) 0).1 = (tsB T en sp).1 from rfl]
            refine x_istore_n dX11_factor_150 (Nat.le_of_ble_eq_true rfl) ?_
            try simp only [xst, xst2, xclr, xset, xwide]
            refine x_aload_n dX11_factor_151 rfl ?_
            refine x_aload_n dX11_factor_152 rfl ?_
            refine y_geti dX11_factor_153 F_M_75 (fxo_127 hx) rfl (by first | exact p3.1.2.2.1 | exact p2.1.2.2.1) ?_
            refine x_if_ne (tgt := 164) dX11_factor_156 rfl (fun c156 => ?_) (fun c156 => ?_)
            · exact absurd c137 c156
            · skip
              refine x_iload_n dX11_factor_159 rfl ?_
              refine x_iconst (v := (-1)) dX11_factor_160 (by decide) ?_
              refine x_icmp_ne (tgt := 168) dX11_factor_161 rfl (fun c161 => ?_) (fun c161 => ?_)
              · have hwb : ¬ (tsB T en sp).1 = -1 := c161
                refine x_iconst (v := 0) dX11_factor_168 (by decide) ?_
                refine x_puti dX11_factor_169 F_M_75 T_11_7 (fxo_127 hx) rfl rfl rfl ?_
                obtain ⟨I4, hI4⟩ : ∃ I4, I4 = xup I3 127 7 (bv false) := ⟨_, rfl⟩
                obtain ⟨t4, p4⟩ := p3.wr false
                rw [← hI4] at t4 p4
                refine y_st (I' := I4) hI4.symm ?_
                refine x_aload_n dX11_factor_172 rfl ?_
                refine x_callV (k2 := 0) (n2 := 0) dX11_factor_173 LV_M_119 (q_figures (I := I4) hx p4) rfl rfl (fxo_127 hx) rfl (by omega) (Nat.le_of_ble_eq_true rfl) (Nat.le_of_ble_eq_true rfl) (Nat.le_of_ble_eq_true rfl) ?_
                rintro _ _ ⟨I5, rfl, rfl, t5, p5⟩
                refine x_istore dX11_factor_176 (Nat.le_of_ble_eq_true rfl) ?_
                try simp only [xst, xst2, xclr, xset, xwide]
                refine x_aload_n dX11_factor_178 rfl ?_
                refine x_iload_n dX11_factor_179 rfl ?_
                refine x_bipush (v := 8) dX11_factor_180 (by decide) ?_
                refine x_iload_n dX11_factor_182 rfl ?_
                refine x_imul dX11_factor_183 ?_
                refine x_iadd dX11_factor_184 ?_
                refine x_bipush (v := 32) dX11_factor_185 (by decide) ?_
                refine x_iload dX11_factor_187 rfl ?_
                refine x_imul dX11_factor_189 ?_
                refine x_iadd dX11_factor_190 ?_
                refine x_callV (k2 := 0) (n2 := 0) dX11_factor_191 LV_M_105 (q_emits (I := I5) hx p5 (fun z => by have h9 := fgS_gt z; have h10 := p5.2.2.2.2.2.1; have h11 := p3.2.2.2.2.2.1; omega)) rfl rfl (fxo_127 hx) rfl (by omega) (Nat.le_of_ble_eq_true rfl) (Nat.le_of_ble_eq_true rfl) (Nat.le_of_ble_eq_true rfl) ?_
                rintro _ _ ⟨I6, rfl, rfl, t6, p6⟩
                refine x_return dX11_factor_194 rfl ?_
                have hW : tsW T en sp = fgW T en (tsB T en sp).2 false := by unfold tsW; rw [decide_eq_false hwa, decide_eq_false hwb, Bool.false_or, Bool.false_or]
                have hS : tsS T en sp = (fgS T en (tsB T en sp).2 false).2 := by unfold tsS; rw [if_neg hwa, if_neg hwb]; rfl
                rw [← hW] at p6 t6
                rw [← hS] at p6
                have gg := (((((t1.tr (L := []) ha4 t2).tr (L := [] ++ []) ha4 t3).tr (L := [] ++ [] ++ []) ha4 t4).tr (L := [] ++ [] ++ [] ++ []) ha4 t5).tr (L := [] ++ [] ++ [] ++ [] ++ []) ha4 t6)
                exact ⟨I6, tsS T en sp, tsW T en sp, emL (tsW T en sp) (tsR T en sp), rfl, rfl, gg, p6, by
                  cases hz : tsW T en sp
                  · obtain ⟨_, _, _, _, _, _, _, _, _, _, h9, _⟩ := ts_ok hz
                    show sp + 1 ≤ _; omega
                  · have h9 := (ts_le (T := T) hse).1
                    show sp + 0 ≤ _; omega, xRF.ts hc⟩
              · have hwb : (tsB T en sp).1 = -1 := c161
                refine x_iconst (v := 1) dX11_factor_164 (by decide) ?_
                refine x_goto (tgt := 169) dX11_factor_165 rfl ?_
                refine x_puti dX11_factor_169 F_M_75 T_11_7 (fxo_127 hx) rfl rfl rfl ?_
                obtain ⟨I4, hI4⟩ : ∃ I4, I4 = xup I3 127 7 (bv true) := ⟨_, rfl⟩
                obtain ⟨t4, p4⟩ := p3.wr true
                rw [← hI4] at t4 p4
                refine y_st (I' := I4) hI4.symm ?_
                refine x_aload_n dX11_factor_172 rfl ?_
                refine x_callV (k2 := 0) (n2 := 0) dX11_factor_173 LV_M_119 (q_figures (I := I4) hx p4) rfl rfl (fxo_127 hx) rfl (by omega) (Nat.le_of_ble_eq_true rfl) (Nat.le_of_ble_eq_true rfl) (Nat.le_of_ble_eq_true rfl) ?_
                rintro _ _ ⟨I5, rfl, rfl, t5, p5⟩
                refine x_istore dX11_factor_176 (Nat.le_of_ble_eq_true rfl) ?_
                try simp only [xst, xst2, xclr, xset, xwide]
                refine x_aload_n dX11_factor_178 rfl ?_
                refine x_iload_n dX11_factor_179 rfl ?_
                refine x_bipush (v := 8) dX11_factor_180 (by decide) ?_
                refine x_iload_n dX11_factor_182 rfl ?_
                refine x_imul dX11_factor_183 ?_
                refine x_iadd dX11_factor_184 ?_
                refine x_bipush (v := 32) dX11_factor_185 (by decide) ?_
                refine x_iload dX11_factor_187 rfl ?_
                refine x_imul dX11_factor_189 ?_
                refine x_iadd dX11_factor_190 ?_
                refine x_callV (k2 := 0) (n2 := 0) dX11_factor_191 LV_M_105 (q_emits (I := I5) hx p5 (fun z => by rw [fgW_t] at z; cases z)) rfl rfl (fxo_127 hx) rfl (by omega) (Nat.le_of_ble_eq_true rfl) (Nat.le_of_ble_eq_true rfl) (Nat.le_of_ble_eq_true rfl) ?_
                rintro _ _ ⟨I6, rfl, rfl, t6, p6⟩
                refine x_return dX11_factor_194 rfl ?_
                have hW : tsW T en sp = true := by unfold tsW; rw [decide_eq_true hwb, Bool.true_or, Bool.or_true]
                have hS : tsS T en sp = (tsB T en sp).2 := by unfold tsS; rw [if_neg hwa, if_pos hwb]
                have eS : (fgS T en (tsB T en sp).2 true).2 = (tsB T en sp).2 := by rw [fgS_w rfl]
                have gg := (((((t1.tr (L := []) ha4 t2).tr (L := [] ++ []) ha4 t3).tr (L := [] ++ [] ++ []) ha4 t4).tr (L := [] ++ [] ++ [] ++ []) ha4 t5).tr (L := [] ++ [] ++ [] ++ [] ++ []) ha4 t6)
                exact ⟨I6, tsS T en sp, tsW T en sp, [], rfl, rfl, gg, by rw [hW, hS]; rw [eS] at p6; exact p6, by have h9 := (ts_le (T := T) hse).1; show sp + 0 ≤ _; omega, by have h9 := xRF.ts (op := op) hc; rw [hW, emL_t] at h9; rw [hW]; exact h9⟩
          · have hwa : (tsA T en sp).1 = -1 := of_decide_eq_true (bv_1 c137)
            refine x_iconst (v := 0) dX11_factor_140 (by decide) ?_
            refine x_goto (tgt := 150) dX11_factor_141 rfl ?_
            refine x_istore_n dX11_factor_150 (Nat.le_of_ble_eq_true rfl) ?_
            try simp only [xst, xst2, xclr, xset, xwide]
            refine x_aload_n dX11_factor_151 rfl ?_
            refine x_aload_n dX11_factor_152 rfl ?_
            refine y_geti dX11_factor_153 F_M_75 (fxo_127 hx) rfl (by first | exact p3.1.2.2.1 | exact p2.1.2.2.1) ?_
            refine x_if_ne (tgt := 164) dX11_factor_156 rfl (fun c156 => ?_) (fun c156 => ?_)
            · skip
              refine x_iconst (v := 1) dX11_factor_164 (by decide) ?_
              refine x_goto (tgt := 169) dX11_factor_165 rfl ?_
              refine x_puti dX11_factor_169 F_M_75 T_11_7 (fxo_127 hx) rfl rfl rfl ?_
              obtain ⟨I4, hI4⟩ : ∃ I4, I4 = xup I2 127 7 (bv true) := ⟨_, rfl⟩
              obtain ⟨t4, p4⟩ := p2.wr true
              rw [← hI4] at t4 p4
              refine y_st (I' := I4) hI4.symm ?_
              refine x_aload_n dX11_factor_172 rfl ?_
              refine x_callV (k2 := 0) (n2 := 0) dX11_factor_173 LV_M_119 (q_figures (I := I4) hx p4) rfl rfl (fxo_127 hx) rfl (by omega) (Nat.le_of_ble_eq_true rfl) (Nat.le_of_ble_eq_true rfl) (Nat.le_of_ble_eq_true rfl) ?_
              rintro _ _ ⟨I5, rfl, rfl, t5, p5⟩
              refine x_istore dX11_factor_176 (Nat.le_of_ble_eq_true rfl) ?_
              try simp only [xst, xst2, xclr, xset, xwide]
              refine x_aload_n dX11_factor_178 rfl ?_
              refine x_iload_n dX11_factor_179 rfl ?_
              refine x_bipush (v := 8) dX11_factor_180 (by decide) ?_
              refine x_iload_n dX11_factor_182 rfl ?_
              refine x_imul dX11_factor_183 ?_
              refine x_iadd dX11_factor_184 ?_
              refine x_bipush (v := 32) dX11_factor_185 (by decide) ?_
              refine x_iload dX11_factor_187 rfl ?_
              refine x_imul dX11_factor_189 ?_
              refine x_iadd dX11_factor_190 ?_
              refine x_callV (k2 := 0) (n2 := 0) dX11_factor_191 LV_M_105 (q_emits (I := I5) hx p5 (fun z => by rw [fgW_t] at z; cases z)) rfl rfl (fxo_127 hx) rfl (by omega) (Nat.le_of_ble_eq_true rfl) (Nat.le_of_ble_eq_true rfl) (Nat.le_of_ble_eq_true rfl) ?_
              rintro _ _ ⟨I6, rfl, rfl, t6, p6⟩
              refine x_return dX11_factor_194 rfl ?_
              have hW : tsW T en sp = true := by unfold tsW; rw [decide_eq_true hwa]; rfl
              have hS : tsS T en sp = (tsA T en sp).2 := by unfold tsS; rw [if_pos hwa]
              have eS : (fgS T en (tsA T en sp).2 true).2 = (tsA T en sp).2 := by rw [fgS_w rfl]
              have gg := ((((t1.tr (L := []) ha4 t2).tr (L := [] ++ []) ha4 t4).tr (L := [] ++ [] ++ []) ha4 t5).tr (L := [] ++ [] ++ [] ++ []) ha4 t6)
              exact ⟨I6, tsS T en sp, tsW T en sp, [], rfl, rfl, gg, by rw [hW, hS]; rw [eS] at p6; exact p6, by have h9 := (ts_le (T := T) hse).1; show sp + 0 ≤ _; omega, by have h9 := xRF.ts (op := op) hc; rw [hW, emL_t] at h9; rw [hW]; exact h9⟩
            · exact absurd c156 c137
        refine x_aload_n dX11_factor_119 rfl ?_
        refine x_iload_n dX11_factor_120 rfl ?_
        refine x_iconst (v := (-1)) dX11_factor_121 (by decide) ?_
        refine x_icmp_ne (tgt := 129) dX11_factor_122 rfl (fun c122 => ?_) (fun c122 => ?_)
        · refine x_iconst (v := 0) dX11_factor_129 (by decide) ?_
          first | exact J130 _ (by rw [decide_eq_true c122]; rfl) | exact J130 _ (by rw [decide_eq_false c122]; rfl)
        · refine x_iconst (v := 1) dX11_factor_125 (by decide) ?_
          refine x_goto (tgt := 130) dX11_factor_126 rfl ?_
          first | exact J130 _ (by rw [decide_eq_true c122]; rfl) | exact J130 _ (by rw [decide_eq_false c122]; rfl)
      · first | exact J25 (Or.inl c16) | exact J25 (Or.inr c22)
  · exact absurd rfl c4
