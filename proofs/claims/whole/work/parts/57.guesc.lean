/-! the class: what the guesses leave -/
set_option maxHeartbeats 4000000 in
set_option maxRecDepth 100000 in
theorem m_Guesses_noteOne {g : xG} {nx : Nat} {sh : Nat → Nat × Nat} {P : Nat → Nat → Option Nat} {I : Nat → Nat → Int32} (hx : xFx sh P) {v : Nat → Nat} {Ln : Nat} (hat : ∀ c, c < 4 → I 104 c = nI (v c) ∧ v c < 10) (hLn : I 100 4 = nI Ln) : xMet g Y_Guesses_noteOne 1 0 0 [.ref 100] (nx, sh, P, I) (fun r σ => ∃ F Gf : Nat → Int32, r = none ∧ σ = (nx, sh, P, va_up (va_up (xup I 100 4 (nI (Ln + 1))) 107 F) 108 Gf) ∧ (∀ c w, c < 4 → w < 10 → F (10 * c + w) = I 107 (10 * c + w) + if v c = w then 1 else 0) ∧ ∀ a b q, a < b → b < 4 → q < 3 → Gf ((a * 4 + b) * 3 + q) = I 108 ((a * 4 + b) * 3 + q) + if cmN (I 106 a) (I 106 b) = q then 1 else 0) := by
  refine xMet.of [some (.ref 100), none, none, none, none] (by decide +kernel) (Nat.le_of_ble_eq_true rfl) rfl ?_
  refine x_aload_n dX3_noteOne_0 rfl ?_
  refine x_dup dX3_noteOne_1 rfl ?_
  refine y_geti dX3_noteOne_2 F_Guesses_27 (fxo_100 hx) rfl hLn ?_
  refine x_iconst (v := 1) dX3_noteOne_5 (by decide) ?_
  refine x_iadd dX3_noteOne_6 ?_
  rw [nI_1]
  refine x_puti dX3_noteOne_7 F_Guesses_27 T_3_4 (fxo_100 hx) rfl rfl rfl ?_
  refine y_st (I' := va_up (va_up (xup I 100 4 (nI (Ln + 1))) 107 (I 107)) 108 (I 108)) (by funext b; unfold va_up; by_cases h8 : b = 108; rw [if_pos h8, h8]; exact xup_n (by decide); rw [if_neg h8]; by_cases h7 : b = 107; rw [if_pos h7, h7]; exact xup_n (by decide); rw [if_neg h7]) ?_
  refine x_iconst (v := 0) dX3_noteOne_10 (by decide) ?_
  refine x_istore_n dX3_noteOne_11 (Nat.le_of_ble_eq_true rfl) ?_
  try simp only [xst, xst2, xclr, xset, xwide]
  have K12 : ∀ (fuel : Nat) (i : Nat) (v2 v3 v4 : Option Value) (F Gf : Nat → Int32) (hi : i ≤ 4) (hF : ∀ c w, c < 4 → w < 10 → F (10 * c + w) = I 107 (10 * c + w) + if c < i ∧ v c = w then 1 else 0) (hG : ∀ a b q, a < b → b < 4 → q < 3 → Gf ((a * 4 + b) * 3 + q) = I 108 ((a * 4 + b) * 3 + q) + if a < i ∧ cmN (I 106 a) (I 106 b) = q then 1 else 0), 4 - i < fuel → xX g Y_Guesses_noteOne 1 0 0 (fun r σ => ∃ F Gf : Nat → Int32, r = none ∧ σ = (nx, sh, P, va_up (va_up (xup I 100 4 (nI (Ln + 1))) 107 F) 108 Gf) ∧ (∀ c w, c < 4 → w < 10 → F (10 * c + w) = I 107 (10 * c + w) + if v c = w then 1 else 0) ∧ ∀ a b q, a < b → b < 4 → q < 3 → Gf ((a * 4 + b) * 3 + q) = I 108 ((a * 4 + b) * 3 + q) + if cmN (I 106 a) (I 106 b) = q then 1 else 0) 12 [some (.ref 100), some (.int (nI i)), v2, v3, v4] [] (nx, sh, P, va_up (va_up (xup I 100 4 (nI (Ln + 1))) 107 F) 108 Gf) := by
    intro fuel
    induction fuel with
    | zero => intro i v2 v3 v4 F Gf hi hF hG hm; exact absurd hm (Nat.not_lt_zero _)
    | succ fuel ih12 =>
      intro i v2 v3 v4 F Gf hi hF hG hm
      have e4 : va_up (va_up (xup I 100 4 (nI (Ln + 1))) 107 F) 108 Gf 106 = I 106 := by rw [va_up_no (by decide), va_up_no (by decide), xup_n (by decide)]
      have e104 : va_up (va_up (xup I 100 4 (nI (Ln + 1))) 107 F) 108 Gf 104 = I 104 := by rw [va_up_no (by decide), va_up_no (by decide), xup_n (by decide)]
      refine x_iload_n dX3_noteOne_12 rfl ?_
      refine x_aload_n dX3_noteOne_13 rfl ?_
      refine y_getr dX3_noteOne_14 F_Guesses_24 (fxo_100 hx) rfl (fxp_100_3 hx) ?_
      refine y_alen dX3_noteOne_17 (fxk_106 hx) (by decide) ?_
      refine x_icmp_ge (tgt := 131) dX3_noteOne_18 rfl (fun c18 => ?_) (fun c18 => ?_)
      · have hie : i = 4 := cge_t (by decide) hi c18
        refine x_return dX3_noteOne_131 rfl ?_
        subst hie
        exact ⟨F, Gf, rfl, rfl, fun c w hc hw => by rw [hF c w hc hw]; congr 1; by_cases hz : v c = w; rw [if_pos ⟨hc, hz⟩, if_pos hz]; rw [if_neg (fun y => hz y.2), if_neg hz], fun a b q h1 h2 h3 => by rw [hG a b q h1 h2 h3]; congr 1; by_cases hz : cmN (I 106 a) (I 106 b) = q; rw [if_pos ⟨by omega, hz⟩, if_pos hz]; rw [if_neg (fun y => hz y.2), if_neg hz]⟩
      · have him : i < 4 := cge_f (by decide) hi c18
        refine x_iload_n dX3_noteOne_21 rfl ?_
        refine x_bipush (v := 10) dX3_noteOne_22 (by decide) ?_
        refine x_imul dX3_noteOne_24 ?_
        rw [show nI i * (10 : Int32) = nI (i * 10) from pk_mul i 10]
        refine x_aload_n dX3_noteOne_25 rfl ?_
        refine y_getr dX3_noteOne_26 F_Guesses_14 (fxo_100 hx) rfl (fxp_100_1 hx) ?_
        refine x_iload_n dX3_noteOne_29 rfl ?_
        refine x_callV (k2 := 0) (n2 := 0) dX3_noteOne_30 LV_Guesses_75 (m_Rows_get (I := va_up (va_up (xup I 100 4 (nI (Ln + 1))) 107 F) 108 Gf) (xrG hx) (p := i) him) rfl rfl (fxo_101 hx) rfl (Nat.le_of_ble_eq_true rfl) (Nat.le_of_ble_eq_true rfl) (Nat.le_of_ble_eq_true rfl) (Nat.le_of_ble_eq_true rfl) ?_
        rintro _ _ ⟨rfl, rfl⟩
        rw [e104, (hat i him).1]
        refine x_iadd dX3_noteOne_33 ?_
        have h10 := (hat i him).2
        rw [show nI (i * 10) + nI (v i) = nI (10 * i + v i) from by rw [nI_add, Nat.mul_comm]]
        refine x_istore_n dX3_noteOne_34 (Nat.le_of_ble_eq_true rfl) ?_
        try simp only [xst, xst2, xclr, xset, xwide]
        refine x_iload_n dX3_noteOne_35 rfl ?_
        refine x_if_lt (tgt := 58) dX3_noteOne_36 rfl (fun c36 => ?_) (fun c36 => ?_)
        · exact absurd c36 (nI_pos (by omega))
        · refine x_iload_n dX3_noteOne_39 rfl ?_
          refine x_aload_n dX3_noteOne_40 rfl ?_
          refine y_getr dX3_noteOne_41 F_Guesses_31 (fxo_100 hx) rfl (fxp_100_5 hx) ?_
          refine y_alen dX3_noteOne_44 (fxk_107 hx) (by decide) ?_
          refine x_icmp_ge (tgt := 58) dX3_noteOne_45 rfl (fun c45 => ?_) (fun c45 => ?_)
          · exact absurd ((nI_leI (by decide) (by omega)).mp c45) (by omega)
          · refine x_aload_n dX3_noteOne_48 rfl ?_
            refine y_getr dX3_noteOne_49 F_Guesses_31 (fxo_100 hx) rfl (fxp_100_5 hx) ?_
            refine x_iload_n dX3_noteOne_52 rfl ?_
            refine x_dup2 dX3_noteOne_53 rfl rfl ?_
            refine y_iaload dX3_noteOne_54 (fxk_107 hx) (vi rfl (show 10 * i + v i < 40 by omega) (by decide)) (rI (j := 10 * i + v i) (ci rfl (by omega)) ((congrFun (va_up_no (by decide)) _).trans (congrFun va_up_at _))) ?_
            refine x_iconst (v := 1) dX3_noteOne_55 (by decide) ?_
            refine x_iadd dX3_noteOne_56 ?_
            refine y_iastore dX3_noteOne_57 (fxk_107 hx) (vi rfl (show 10 * i + v i < 40 by omega) (by decide)) (ci rfl (by omega)) ?_
            rw [show xup (va_up (va_up (xup I 100 4 (nI (Ln + 1))) 107 F) 108 Gf) 107 (10 * i + v i) (F (10 * i + v i) + 1) = va_up (va_up (xup I 100 4 (nI (Ln + 1))) 107 (upd F (10 * i + v i) (F (10 * i + v i) + 1))) 108 Gf from by
              funext b; unfold xup va_up
              by_cases h8 : b = 108
              · rw [if_neg (by omega), if_pos h8, if_pos h8]
              · by_cases h7 : b = 107
                · rw [if_pos h7, if_neg h8, if_pos h7, if_neg (by decide), if_pos rfl]
                · rw [if_neg h7, if_neg h8, if_neg h7, if_neg h8, if_neg h7]]
            obtain ⟨F2, hF2d⟩ : ∃ F2, F2 = upd F (10 * i + v i) (F (10 * i + v i) + 1) := ⟨_, rfl⟩
            rw [← hF2d]
            have hF2 : ∀ c w, c < 4 → w < 10 → F2 (10 * c + w) = I 107 (10 * c + w) + if c < i + 1 ∧ v c = w then 1 else 0 := fun c w hc hw => by
              rw [hF2d]
              by_cases hz : 10 * c + w = 10 * i + v i
              · have h3 : c = i ∧ w = v i := by omega
                rw [hz, upd_e, hF i (v i) him h10, if_neg (fun y => Nat.lt_irrefl _ y.1), Int32.add_zero, if_pos ⟨by omega, by rw [h3.1, h3.2]⟩]
              · rw [upd_n hz, hF c w hc hw]
                congr 1
                by_cases hy : c < i ∧ v c = w
                · rw [if_pos hy, if_pos ⟨by omega, hy.2⟩]
                · rw [if_neg hy, if_neg (fun y => by
                    have : c = i := by omega
                    subst this
                    exact hz (by rw [y.2]))]
            have e62 : va_up (va_up (xup I 100 4 (nI (Ln + 1))) 107 F2) 108 Gf 106 = I 106 := by rw [va_up_no (by decide), va_up_no (by decide), xup_n (by decide)]
            refine x_iload_n dX3_noteOne_58 rfl ?_
            refine x_iconst (v := 1) dX3_noteOne_59 (by decide) ?_
            refine x_iadd dX3_noteOne_60 ?_
            rw [nI_1]
            refine x_istore_n dX3_noteOne_61 (Nat.le_of_ble_eq_true rfl) ?_
            try simp only [xst, xst2, xclr, xset, xwide]
            have K62 : ∀ (fuel : Nat) (j : Nat) (v4 : Option Value) (G2 : Nat → Int32) (hj1 : i + 1 ≤ j) (hj : j ≤ 4) (hG2 : ∀ a b q, a < b → b < 4 → q < 3 → G2 ((a * 4 + b) * 3 + q) = I 108 ((a * 4 + b) * 3 + q) + if (a < i ∨ (a = i ∧ b < j)) ∧ cmN (I 106 a) (I 106 b) = q then 1 else 0), 4 - j < fuel → xX g Y_Guesses_noteOne 1 0 0 (fun r σ => ∃ F Gf : Nat → Int32, r = none ∧ σ = (nx, sh, P, va_up (va_up (xup I 100 4 (nI (Ln + 1))) 107 F) 108 Gf) ∧ (∀ c w, c < 4 → w < 10 → F (10 * c + w) = I 107 (10 * c + w) + if v c = w then 1 else 0) ∧ ∀ a b q, a < b → b < 4 → q < 3 → Gf ((a * 4 + b) * 3 + q) = I 108 ((a * 4 + b) * 3 + q) + if cmN (I 106 a) (I 106 b) = q then 1 else 0) 62 [some (.ref 100), some (.int (nI i)), some (.int (nI (10 * i + v i))), some (.int (nI j)), v4] [] (nx, sh, P, va_up (va_up (xup I 100 4 (nI (Ln + 1))) 107 F2) 108 G2) := by
              intro fuel
              induction fuel with
              | zero => intro j v4 G2 hj1 hj hG2 hm; exact absurd hm (Nat.not_lt_zero _)
              | succ fuel ih62 =>
                intro j v4 G2 hj1 hj hG2 hm
                have e63 : va_up (va_up (xup I 100 4 (nI (Ln + 1))) 107 F2) 108 G2 106 = I 106 := by rw [va_up_no (by decide), va_up_no (by decide), xup_n (by decide)]
                refine x_iload_n dX3_noteOne_62 rfl ?_
                refine x_aload_n dX3_noteOne_63 rfl ?_
                refine y_getr dX3_noteOne_64 F_Guesses_24 (fxo_100 hx) rfl (fxp_100_3 hx) ?_
                refine y_alen dX3_noteOne_67 (fxk_106 hx) (by decide) ?_
                refine x_icmp_ge (tgt := 125) dX3_noteOne_68 rfl (fun c68 => ?_) (fun c68 => ?_)
                · have hie : j = 4 := cge_t (by decide) hj c68
                  refine x_iinc (v := (nI (i + 1))) dX3_noteOne_125 rfl (nI_1 _) (Nat.le_of_ble_eq_true rfl) ?_
                  try simp only [xst, xst2, xclr, xset, xwide]
                  refine x_goto (tgt := 12) dX3_noteOne_128 rfl ?_
                  exact ih12 (i + 1) _ _ _ _ _ (by omega) hF2 (fun a b q h1 h2 h3 => by rw [hG2 a b q h1 h2 h3]; congr 1; by_cases hz : (a < i ∨ (a = i ∧ b < j)) ∧ cmN (I 106 a) (I 106 b) = q; rw [if_pos hz, if_pos ⟨by omega, hz.2⟩]; rw [if_neg hz, if_neg (fun y => hz ⟨by omega, y.2⟩)]) (by omega)
                · have hjm : j < 4 := cge_f (by decide) hj c68
                  refine x_iload_n dX3_noteOne_71 rfl ?_
                  refine x_iload_n dX3_noteOne_72 rfl ?_
                  refine x_aload_n dX3_noteOne_73 rfl ?_
                  refine y_getr dX3_noteOne_74 F_Guesses_24 (fxo_100 hx) rfl (fxp_100_3 hx) ?_
                  refine x_iload_n dX3_noteOne_77 rfl ?_
                  refine y_iaload dX3_noteOne_78 (fxk_106 hx) (vi rfl him (by decide)) (rI (j := i) (ci rfl (by omega)) (congrFun e63 i)) ?_
                  refine x_aload_n dX3_noteOne_79 rfl ?_
                  refine y_getr dX3_noteOne_80 F_Guesses_24 (fxo_100 hx) rfl (fxp_100_3 hx) ?_
                  refine x_iload_n dX3_noteOne_83 rfl ?_
                  refine y_iaload dX3_noteOne_84 (fxk_106 hx) (vi rfl hjm (by decide)) (rI (j := j) (ci rfl (by omega)) (congrFun e63 j)) ?_
                  refine x_callS (k2 := 0) (n2 := 0) dX3_noteOne_85 LS_Guesses_113 m_compare rfl rfl (Nat.le_of_ble_eq_true rfl) (Nat.le_of_ble_eq_true rfl) (Nat.le_of_ble_eq_true rfl) (Nat.le_of_ble_eq_true rfl) ?_
                  rintro _ _ ⟨rfl, rfl⟩
                  refine x_callS (k2 := 0) (n2 := 0) dX3_noteOne_88 LS_Guesses_118 m_Guesses_outcome rfl rfl (Nat.le_of_ble_eq_true rfl) (Nat.le_of_ble_eq_true rfl) (Nat.le_of_ble_eq_true rfl) (Nat.le_of_ble_eq_true rfl) ?_
                  rintro _ _ ⟨rfl, rfl⟩
                  rw [oc_e]
                  obtain ⟨qq, hqq⟩ : ∃ qq, qq = cmN (I 106 i) (I 106 j) := ⟨_, rfl⟩
                  have hq3 : qq < 3 := by rw [hqq]; exact cmN_lt
                  rw [← hqq]
                  refine x_istore dX3_noteOne_91 (Nat.le_of_ble_eq_true rfl) ?_
                  try simp only [xst, xst2, xclr, xset, xwide]
                  refine x_iload dX3_noteOne_93 rfl ?_
                  refine x_if_lt (tgt := 119) dX3_noteOne_95 rfl (fun c95 => ?_) (fun c95 => ?_)
                  · exact absurd c95 (nI_pos (by omega))
                  · refine x_iload dX3_noteOne_98 rfl ?_
                    refine x_aload_n dX3_noteOne_100 rfl ?_
                    refine y_getr dX3_noteOne_101 F_Guesses_34 (fxo_100 hx) rfl (fxp_100_6 hx) ?_
                    refine y_alen dX3_noteOne_104 (fxk_108 hx) (by decide) ?_
                    refine x_icmp_ge (tgt := 119) dX3_noteOne_105 rfl (fun c105 => ?_) (fun c105 => ?_)
                    · exact absurd ((nI_leI (by decide) (by omega)).mp c105) (by omega)
                    · refine x_aload_n dX3_noteOne_108 rfl ?_
                      refine y_getr dX3_noteOne_109 F_Guesses_34 (fxo_100 hx) rfl (fxp_100_6 hx) ?_
                      refine x_iload dX3_noteOne_112 rfl ?_
                      refine x_dup2 dX3_noteOne_114 rfl rfl ?_
                      refine y_iaload dX3_noteOne_115 (fxk_108 hx) (vi rfl (show (i * 4 + j) * 3 + qq < 48 by omega) (by decide)) (rI (j := (i * 4 + j) * 3 + qq) (ci rfl (by omega)) (congrFun va_up_at _)) ?_
                      refine x_iconst (v := 1) dX3_noteOne_116 (by decide) ?_
                      refine x_iadd dX3_noteOne_117 ?_
                      refine y_iastore dX3_noteOne_118 (fxk_108 hx) (vi rfl (show (i * 4 + j) * 3 + qq < 48 by omega) (by decide)) (ci rfl (by omega)) ?_
                      rw [xup_row]
                      obtain ⟨G3, hG3d⟩ : ∃ G3, G3 = upd G2 ((i * 4 + j) * 3 + qq) (G2 ((i * 4 + j) * 3 + qq) + 1) := ⟨_, rfl⟩
                      rw [← hG3d]
                      have hG3 : ∀ a b q, a < b → b < 4 → q < 3 → G3 ((a * 4 + b) * 3 + q) = I 108 ((a * 4 + b) * 3 + q) + if (a < i ∨ (a = i ∧ b < j + 1)) ∧ cmN (I 106 a) (I 106 b) = q then 1 else 0 := fun a b q h1 h2 h3 => by
                        rw [hG3d]
                        by_cases hz : (a * 4 + b) * 3 + q = (i * 4 + j) * 3 + qq
                        · have h5 : a = i ∧ b = j ∧ q = qq := by omega
                          obtain ⟨rfl, rfl, rfl⟩ := h5
                          rw [upd_e, hG2 a b q h1 h2 h3, if_neg (fun y => by omega), Int32.add_zero, if_pos ⟨Or.inr ⟨rfl, by omega⟩, hqq.symm⟩]
                        · rw [upd_n hz, hG2 a b q h1 h2 h3]
                          congr 1
                          by_cases hy : (a < i ∨ (a = i ∧ b < j)) ∧ cmN (I 106 a) (I 106 b) = q
                          · rw [if_pos hy, if_pos ⟨by omega, hy.2⟩]
                          · rw [if_neg hy, if_neg (fun y => by
                              by_cases hab : a = i ∧ b = j
                              · obtain ⟨rfl, rfl⟩ := hab
                                exact hz (by rw [hqq, y.2])
                              · exact hy ⟨by omega, y.2⟩)]
                      refine x_iinc (v := (nI (j + 1))) dX3_noteOne_119 rfl (nI_1 _) (Nat.le_of_ble_eq_true rfl) ?_
                      try simp only [xst, xst2, xclr, xset, xwide]
                      refine x_goto (tgt := 62) dX3_noteOne_122 rfl ?_
                      exact ih62 (j + 1) _ _ (by omega) (by omega) hG3 (by omega)
            exact K62 _ (i + 1) _ Gf (Nat.le_refl _) (by omega) (fun a b q h1 h2 h3 => by rw [hG a b q h1 h2 h3]; congr 1; by_cases hz : a < i ∧ cmN (I 106 a) (I 106 b) = q; rw [if_pos hz, if_pos ⟨Or.inl hz.1, hz.2⟩]; rw [if_neg hz, if_neg (fun y => hz ⟨by omega, y.2⟩)]) (Nat.lt_succ_self _)
  exact K12 _ 0 none none none (I 107) (I 108) (by decide) (fun c w _ _ => by rw [if_neg (fun y => Nat.not_lt_zero _ y.1), Int32.add_zero]) (fun a b q _ _ _ => by rw [if_neg (fun y => Nat.not_lt_zero _ y.1), Int32.add_zero]) (Nat.lt_succ_self _)
