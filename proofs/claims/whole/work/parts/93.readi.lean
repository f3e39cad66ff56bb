/-! the class: a land read -/
/-- a new land, no clause yet -/
theorem lnd_new {nx : Nat} {sh : Nat → Nat × Nat} {P : Nat → Nat → Option Nat} {I : Nat → Nat → Int32} {l : List Nat} (hn : 144 ≤ nx) : xGr nx sh P I (va_up (va_up sh nx (4, 0)) (nx + 1) (14, 10)) (xrp (va_up (va_up P nx (fun _ => none)) (nx + 1) (fun _ => none)) nx 0 (some (nx + 1))) (xup (va_up (va_up I nx (fun _ => 0)) (nx + 1) (fun _ => 0)) nx 1 0) l ∧ xLnd (nx + 2) (va_up (va_up sh nx (4, 0)) (nx + 1) (14, 10)) (xrp (va_up (va_up P nx (fun _ => none)) (nx + 1) (fun _ => none)) nx 0 (some (nx + 1))) (xup (va_up (va_up I nx (fun _ => 0)) (nx + 1) (fun _ => 0)) nx 1 0) nx (nx + 1) [] := by
  refine ⟨⟨fun a ha => ⟨?_, ?_⟩, fun a ha _ => ?_⟩, ⟨hn, by omega, by omega, by omega⟩, ?_, ?_, vu_e, xs, by decide, fun i hi => ⟨fun d hd => (by cases hd), fun _ => ?_⟩⟩
  · rw [vu_n (by omega), vu_n (by omega)]
  · rw [xrp_n (by omega), vu_n (by omega), vu_n (by omega)]
  · rw [xup_n (by omega), va_up_no (by omega), va_up_no (by omega)]
  · rw [vu_n (by omega), vu_e]
  · rw [xrp_s, vu_e]
  · rw [xrp_n (by omega), vu_e]
theorem RI.t7 {s : Nat → Int32} (h : RI s) : ∀ j, j < cN s 7 → 0 ≤ s (117 + j) ∧ s (117 + j) ≤ 127 := fun j hj => by
  obtain ⟨p, hp, e⟩ := h.2.2.2.2.2.2.2.2.2.2 j hj
  rw [e]
  exact ⟨nI_0le (by omega), nI_le (b := 127) hp (by decide)⟩
set_option maxHeartbeats 4000000 in
set_option maxRecDepth 100000 in
theorem m_Reader_read {g : xG} {nx : Nat} {sh : Nat → Nat × Nat} {P : Nat → Nat → Option Nat} {I : Nat → Nat → Int32} (hx : xFx sh P) {s : Nat → Int32} (hW : xWN nx sh P I s) (hR : RI s) (hnx : 144 ≤ nx) : xMet g Y_Reader_read 8 22 1042 [.ref 97] (nx, sh, P, I) (fun r σ => ∃ (nx1 : Nat) (sh1 : Nat → Nat × Nat) (P1 : Nat → Nat → Option Nat) (I1 : Nat → Nat → Int32) (sp1 : Nat), σ = (nx1, sh1, P1, I1) ∧ nx + 2 ≤ nx1 ∧ xGr nx sh P I sh1 P1 I1 [97, 98, 99] ∧ xRr I1 (fun j => s (117 + j)) (cN s 7) sp1 ∧ ((r = some .null ∧ ldF (fun j => s (117 + j)) (cN s 7) 10 0 none sp1) ∨ ∃ cs : List CL, r = some (.ref nx) ∧ ldF (fun j => s (117 + j)) (cN s 7) 10 0 (some cs) sp1 ∧ xLnd nx1 sh1 P1 I1 nx (nx + 1) cs)) := by
  refine xMet.of [some (.ref 97), none, none, none] (by decide +kernel) (Nat.le_of_ble_eq_true rfl) rfl ?_
  have hx0 := hx
  refine x_aload_n dX6_read_0 rfl ?_
  refine x_callV (k2 := 22) (n2 := 1042) dX6_read_1 LV_Reader_38 (m_Reader_unroll hx hW hR) rfl rfl (fxo_97 hx) rfl (Nat.le_of_ble_eq_true rfl) (Nat.le_of_ble_eq_true rfl) (Nat.le_of_ble_eq_true rfl) (Nat.le_of_ble_eq_true rfl) ?_
  rintro _ _ ⟨I1, rfl, rfl, hF1, hr1, -⟩
  obtain ⟨T, hTd⟩ : ∃ T : Nat → Int32, T = fun j => s (117 + j) := ⟨_, rfl⟩
  obtain ⟨en, hen⟩ : ∃ e, e = cN s 7 := ⟨_, rfl⟩
  have hT7 : ∀ j, j < en → 0 ≤ T j ∧ T j ≤ 127 := by rw [hTd, hen]; exact hR.t7
  rw [← hTd, ← hen] at hr1
  refine y_new (k2 := 21) (n2 := 1040) (nx1 := nx + 1) dX6_read_4 N_Reader_41 rfl (Nat.le_of_ble_eq_true rfl) (Nat.le_of_ble_eq_true rfl) ?_
  refine x_dup dX6_read_7 rfl ?_
  refine x_callI (k2 := 20) (n2 := 1030) dX6_read_8 LI_Reader_43 (m_Land_init (nx := nx + 1) (la := nx) (by rw [vu_e]) (by omega)) rfl rfl (Nat.le_of_ble_eq_true rfl) (Nat.le_of_ble_eq_true rfl) (Nat.le_of_ble_eq_true rfl) (Nat.le_of_ble_eq_true rfl) ?_
  rintro _ _ ⟨rfl, rfl⟩
  obtain ⟨gG, gL⟩ := lnd_new (sh := sh) (P := P) (I := I1) (l := [97, 98, 99]) hnx
  have gr : xRr (xup (va_up (va_up I1 nx (fun _ => 0)) (nx + 1) (fun _ => 0)) nx 1 0) T en 0 := hr1.fr (by rw [xo (by omega), va_up_no (by omega), va_up_no (by omega)]) (by rw [xo (by omega), va_up_no (by omega), va_up_no (by omega)]) (by rw [xup_n (by omega), va_up_no (by omega), va_up_no (by omega)])
  show xX _ _ _ _ _ _ _ _ _ (nx + 2, _, _, _)
  refine x_astore_n dX6_read_11 (Nat.le_of_ble_eq_true rfl) ?_
  try simp only [xst, xst2, xclr, xset, xwide]
  refine x_iconst (v := 1) dX6_read_12 (by decide) ?_
  refine x_istore_n dX6_read_13 (Nat.le_of_ble_eq_true rfl) ?_
  try simp only [xst, xst2, xclr, xset, xwide]
  have K14 : ∀ (fuel : Nat) (n nx2 sp2 : Nat) (cs : List CL) (sh2 : Nat → Nat × Nat) (P2 : Nat → Nat → Option Nat) (I2 : Nat → Nat → Int32) (v3 : Option Value) (hn : n < 10) (hc : cs.length = n) (hnx2 : nx + 2 ≤ nx2) (hG : xGr nx sh P I sh2 P2 I2 [97, 98, 99]) (hr2 : xRr I2 T en sp2) (hL : xLnd nx2 sh2 P2 I2 nx (nx + 1) cs) (hK : ∀ res q, ldF T en (10 - n) sp2 res q → ldF T en 10 0 (res.map (fun l => cs ++ l)) q), 10 - n < fuel → xX g Y_Reader_read 8 (2 * (10 - n)) (103 * (10 - n)) (fun r σ => ∃ (nx1 : Nat) (sh1 : Nat → Nat × Nat) (P1 : Nat → Nat → Option Nat) (I1 : Nat → Nat → Int32) (sp1 : Nat), σ = (nx1, sh1, P1, I1) ∧ nx + 2 ≤ nx1 ∧ xGr nx sh P I sh1 P1 I1 [97, 98, 99] ∧ xRr I1 (fun j => s (117 + j)) (cN s 7) sp1 ∧ ((r = some .null ∧ ldF (fun j => s (117 + j)) (cN s 7) 10 0 none sp1) ∨ ∃ cs : List CL, r = some (.ref nx) ∧ ldF (fun j => s (117 + j)) (cN s 7) 10 0 (some cs) sp1 ∧ xLnd nx1 sh1 P1 I1 nx (nx + 1) cs)) 14 [some (.ref 97), some (.ref nx), some (.int (nI (n + 1))), v3] [] (nx2, sh2, P2, I2) := by
    intro fuel
    induction fuel with
    | zero => intro n nx2 sp2 cs sh2 P2 I2 v3 hn hc hnx2 hG hr2 hL hK hm; exact absurd hm (Nat.not_lt_zero _)
    | succ fuel ih14 =>
      intro n nx2 sp2 cs sh2 P2 I2 v3 hn hc hnx2 hG hr2 hL hK hm
      have hx := hx.gr hnx hG
      refine x_iload_n dX6_read_14 rfl ?_
      refine x_bipush (v := 10) dX6_read_15 (by decide) ?_
      refine x_icmp_gt (tgt := 72) dX6_read_17 rfl (fun c17 => ?_) (fun c17 => ?_)
      · exact absurd ((nI_ltI (a := 10) (b := n + 1) (by decide) (by omega)).mp c17) (by omega)
      · refine x_aload_n dX6_read_20 rfl ?_
        refine x_callV (k2 := (2 * (10 - (n + 1)))) (n2 := (103 * (10 - (n + 1)))) dX6_read_21 LV_Reader_44 (m_Reader_readClause (nx := nx2) (I := I2) hx hr2 (by omega) hT7) rfl rfl (fxo_97 hx) rfl (Nat.le_of_ble_eq_true rfl) (Nat.le_of_ble_eq_true rfl) (by omega) (by omega) ?_
        have hldk : 10 - n = (9 - n) + 1 := by omega
        rw [hldk] at hK
        rintro _ _ ⟨I3, sp3, ⟨rfl, rfl, hF3, hr3, hcl⟩ | ⟨d, sh3, P3, rfl, rfl, hG3, hr3, hcl, hC3⟩⟩
        rotate_left 0
        · have hK1 := hK none sp3 (Or.inl ⟨hcl, rfl⟩)
          refine x_astore_nN dX6_read_24 (Nat.le_of_ble_eq_true rfl) ?_
          try simp only [xst, xst2, xclr, xset, xwide]
          refine x_aload_nN dX6_read_25 rfl ?_
          refine x_ifnonnullN dX6_read_26 ?_
          refine x_aconst_null dX6_read_29 ?_
          refine x_areturnN dX6_read_30 rfl (Or.inl ⟨_, rfl⟩) ?_
          subst hTd hen
          exact ⟨_, _, _, _, sp3, rfl, hnx2, hG.tr (xGr.rf (nx := nx2) (l := [97, 98, 99]) hF3.mono) (by omega), hr3, Or.inl ⟨rfl, hK1⟩⟩
        · have hG3b : xGr nx sh P I sh3 P3 I3 [97, 98, 99] := hG.tr hG3.mono (by omega)
          have hL3 : xLnd (nx2 + 2) sh3 P3 I3 nx (nx + 1) cs := hL.mv (by omega) (fun a h1 h2 => ⟨hG3.2 a h2 (fun z => by simp at z; omega), (hG3.1 a h2).2, (hG3.1 a h2).1⟩)
          have hla := hL3.2.1
          have hcl2 := hC3.2.1
          have hen3 := hr3.2.2.1
          have hse3 := hr3.2.2.2.1
          refine x_astore_n dX6_read_24 (Nat.le_of_ble_eq_true rfl) ?_
          try simp only [xst, xst2, xclr, xset, xwide]
          refine x_aload_n dX6_read_25 rfl ?_
          refine x_ifnonnull (tgt := 31) rfl dX6_read_26 ?_
          refine x_aload_n dX6_read_31 rfl ?_
          refine x_aload_n dX6_read_32 rfl ?_
          refine x_callV (k2 := (2 * (10 - (n + 1)))) (n2 := (103 * (10 - (n + 1)))) dX6_read_33 LV_Reader_48 (m_Land_add (nx := nx2 + 2) (la := nx) (ar := nx + 1) (cl := nx2) (n := n) hla hL3.2.2.2.1 hL3.2.2.1 (by rw [hL3.2.2.2.2.1, hc]) hn hcl2) rfl rfl hla rfl (Nat.le_of_ble_eq_true rfl) (Nat.le_of_ble_eq_true rfl) (by omega) (by omega) ?_
          rintro _ _ ⟨rfl, rfl⟩
          have hL4 := hL3.add hC3 (by omega)
          rw [hc] at hL4
          have hG4 : xGr nx sh P I sh3 (xrp P3 (nx + 1) n (some nx2)) (xup I3 nx 1 (nI (n + 1))) [97, 98, 99] := ⟨fun a ha => ⟨(hG3b.1 a ha).1, by rw [xrp_n (by omega)]; exact (hG3b.1 a ha).2⟩, fun a ha hl => by rw [xup_n (by omega)]; exact hG3b.2 a ha hl⟩
          have hr4 : xRr (xup I3 nx 1 (nI (n + 1))) T en sp3 := hr3.fr (xo (by omega)) (xo (by omega)) (xup_n (by omega))
          obtain ⟨I4, eI4⟩ : ∃ z, z = xup I3 nx 1 (nI (n + 1)) := ⟨_, rfl⟩
          obtain ⟨P4, eP4⟩ : ∃ z, z = xrp P3 (nx + 1) n (some nx2) := ⟨_, rfl⟩
          rw [← eI4, ← eP4] at hL4 hG4
          rw [← eI4] at hr4
          rw [← eI4, ← eP4]
          have hx := hx0.gr hnx hG4
          refine x_aload_n dX6_read_36 rfl ?_
          refine y_geti dX6_read_37 F_Reader_19 (fxo_97 hx) rfl hr4.2.1 ?_
          refine x_aload_n dX6_read_40 rfl ?_
          refine y_geti dX6_read_41 F_Reader_15 (fxo_97 hx) rfl hr4.1 ?_
          refine x_icmp_lt (tgt := 49) dX6_read_44 rfl (fun c44 => ?_) (fun c44 => ?_)
          · have hlt : sp3 < en := (nI_ltI (by omega) (by omega)).mp c44
            have hK3 := hK none sp3
            refine x_iload_n dX6_read_49 rfl ?_
            refine x_bipush (v := 10) dX6_read_50 (by decide) ?_
            refine x_icmp_eq (tgt := 64) dX6_read_52 rfl (fun c52 => ?_) (fun c52 => ?_)
            · have hn9 : n + 1 = 10 := (nI_eqI (b := 10) (by omega) (by decide)).mp c52
              refine x_aconst_null dX6_read_64 ?_
              refine x_areturnN dX6_read_65 rfl (Or.inl ⟨_, rfl⟩) ?_
              have hK4 := hK3 (Or.inr ⟨d, sp3, hcl, Or.inr (Or.inl ⟨by omega, Or.inl (by omega), rfl, rfl⟩)⟩)
              subst hTd hen
              exact ⟨_, _, _, _, sp3, rfl, by omega, hG4, hr4, Or.inl ⟨rfl, hK4⟩⟩
            · have hn9 : ¬ n + 1 = 10 := fun z => c52 (by rw [z]; rfl)
              refine x_aload_n dX6_read_55 rfl ?_
              refine x_bipush (v := 59) dX6_read_56 (by decide) ?_
              refine x_callV (k2 := (2 * (10 - (n + 1)))) (n2 := (103 * (10 - (n + 1)))) dX6_read_58 LV_Reader_52 (m_Reader_take (I := I4) (c := 59) hx hr4 (by decide)) rfl rfl (fxo_97 hx) rfl (Nat.le_of_ble_eq_true rfl) (Nat.le_of_ble_eq_true rfl) (by omega) (by omega) ?_
              rintro _ _ ⟨I5, rfl, rfl, hF5, hr5⟩
              refine x_if_ne (tgt := 66) dX6_read_61 rfl (fun c61 => ?_) (fun c61 => ?_)
              · obtain ⟨h59, hms⟩ := mu_n (nbv_1 c61)
                rw [hms] at hr5
                have hL5 : xLnd (nx2 + 2) sh3 P4 I5 nx (nx + 1) (cs ++ [d]) := hL4.mv (Nat.le_refl _) (fun a h1 h2 => ⟨hF5.1 a (fun z => by simp at z; omega), rfl, rfl⟩)
                have hK2 : ∀ res q, ldF T en (10 - (n + 1)) (sp3 + 1) res q → ldF T en 10 0 (res.map (fun l => cs ++ [d] ++ l)) q := fun res q h => by
                  rw [show 10 - (n + 1) = 9 - n by omega] at h
                  have h9 := hK (res.map (fun l => d :: l)) q (Or.inr ⟨d, sp3, hcl, Or.inr (Or.inr ⟨by omega, h59, res, h, rfl⟩)⟩)
                  cases res with
                  | none => exact h9
                  | some l =>
                    show ldF T en 10 0 (some (cs ++ [d] ++ l)) q
                    rw [List.append_assoc]; exact h9
                refine x_iinc (v := (nI (n + 1 + 1))) dX6_read_66 rfl (nI_1 _) (Nat.le_of_ble_eq_true rfl) ?_
                try simp only [xst, xst2, xclr, xset, xwide]
                refine x_goto (tgt := 14) dX6_read_69 rfl ?_
                exact ih14 (n + 1) (nx2 + 2) (sp3 + 1) (cs ++ [d]) sh3 P4 I5 _ (by omega) (by rw [List.length_append]; show cs.length + 1 = n + 1; omega) (by omega) (hG4.tr (xGr.rf (l := [97, 98, 99]) hF5.1.mono) (Nat.le_refl _)) hr5 hL5 hK2 (by omega)
              · obtain ⟨h59, hms⟩ := mu_y (nbv_0 c61)
                rw [hms] at hr5
                refine x_aconst_null dX6_read_64 ?_
                refine x_areturnN dX6_read_65 rfl (Or.inl ⟨_, rfl⟩) ?_
                have hK4 := hK3 (Or.inr ⟨d, sp3, hcl, Or.inr (Or.inl ⟨by omega, Or.inr h59, rfl, rfl⟩)⟩)
                subst hTd hen
                exact ⟨_, _, _, _, sp3, rfl, by omega, hG4.tr (xGr.rf (nx := nx2) (l := [97, 98, 99]) hF5.1.mono) (by omega), hr5, Or.inl ⟨rfl, hK4⟩⟩
          · have hge : sp3 = en := by have : ¬ sp3 < en := fun y => c44 (nI_lt y (by omega)); omega
            refine x_aload_n dX6_read_47 rfl ?_
            refine x_areturn dX6_read_48 rfl (Or.inl ⟨_, rfl⟩) ?_
            have hK4 := hK (some [d]) sp3 (Or.inr ⟨d, sp3, hcl, Or.inl ⟨hge, rfl, rfl⟩⟩)
            subst hTd hen
            exact ⟨_, _, _, _, sp3, rfl, by omega, hG4, hr4, Or.inr ⟨cs ++ [d], rfl, hK4, hL4⟩⟩
  exact K14 _ 0 (nx + 2) 0 [] _ _ _ none (by decide) rfl (Nat.le_refl _) ((xGr.rf hF1.mono).tr gG (Nat.le_refl _)) gr gL (fun res q h => by cases res <;> exact h) (Nat.lt_succ_self _)
