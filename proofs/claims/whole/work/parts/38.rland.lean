set_option maxHeartbeats 4000000 in
set_option maxRecDepth 100000 in
theorem r_land {g : xG} {nx : Nat} {sh : Nat → Nat × Nat} {P : Nat → Nat → Option Nat} {I : Nat → Nat → Int32} (hx : xFx sh P) (hR : RI (I 128)) : xMet g Y_M_land 25 0 0 [.ref 127] (nx, sh, P, I) (xLq nx sh P I) := by
  refine xMet.of [some (.ref 127), none] (by decide +kernel) (Nat.le_of_ble_eq_true rfl) rfl ?_
  obtain ⟨-, -, ⟨n2, b2, e2⟩, -, -, -, -, ⟨n7, b7, e7⟩, -⟩ := hR.k
  obtain ⟨T, hTd⟩ : ∃ T, T = txt (I 128) := ⟨_, rfl⟩
  refine x_aload_n dX11_land_0 rfl ?_
  refine y_getr dX11_land_1 F_M_9 (fxo_127 hx) rfl (fxp_127_1 hx) ?_
  refine x_iconst (v := 2) dX11_land_4 (by decide) ?_
  refine y_iaload dX11_land_5 (fxk_128 hx) (vi (j := 2) rfl (by omega) (by decide)) (rI (j := 2) rfl e2) ?_
  refine x_iconst (v := 5) dX11_land_6 (by decide) ?_
  refine x_icmp_ne (tgt := 13) dX11_land_7 rfl (fun c7 => ?_) (fun c7 => ?_)
  · have h25 : ¬ I 128 2 = 5 := by rw [e2]; exact c7
    have hn24 : n2 ≤ 4 := by have h9 : ¬ n2 = 5 := fun z => c7 (by rw [z]; rfl); omega
    have hcN2 : cN (I 128) 2 = n2 := cN_of e2 (by omega)
    refine x_aload_n dX11_land_13 rfl ?_
    refine x_aload_n dX11_land_14 rfl ?_
    refine y_getr dX11_land_15 F_M_9 (fxo_127 hx) rfl (fxp_127_1 hx) ?_
    refine x_iconst (v := 2) dX11_land_18 (by decide) ?_
    refine y_iaload dX11_land_19 (fxk_128 hx) (vi (j := 2) rfl (by omega) (by decide)) (rI (j := 2) rfl e2) ?_
    refine x_puti dX11_land_20 F_M_96 T_11_4 (fxo_127 hx) rfl rfl rfl ?_
    refine x_aload_n dX11_land_23 rfl ?_
    refine x_aload_n dX11_land_24 rfl ?_
    refine y_getr dX11_land_25 F_M_9 (fxo_127 hx) rfl (fxp_127_1 hx) ?_
    refine x_bipush (v := 7) dX11_land_28 (by decide) ?_
    refine y_iaload dX11_land_30 (fxk_128 hx) (vi (j := 7) rfl (by omega) (by decide)) (rI (j := 7) rfl (show _ = nI n7 from by rw [xo (by decide)]; exact e7)) ?_
    refine x_puti dX11_land_31 F_M_72 T_11_6 (fxo_127 hx) rfl rfl rfl ?_
    refine x_aload_n dX11_land_34 rfl ?_
    refine y_getr dX11_land_35 F_M_9 (fxo_127 hx) rfl (fxp_127_1 hx) ?_
    refine x_bipush (v := 7) dX11_land_38 (by decide) ?_
    refine x_iconst (v := 0) dX11_land_40 (by decide) ?_
    refine y_iastore dX11_land_41 (fxk_128 hx) (vi (j := 7) rfl (by omega) (by decide)) (ci (j := 7) rfl (by omega)) ?_
    refine x_aload_n dX11_land_42 rfl ?_
    refine y_getr dX11_land_43 F_M_9 (fxo_127 hx) rfl (fxp_127_1 hx) ?_
    refine x_sipush (v := 217) dX11_land_46 (by decide) ?_
    refine x_aload_n dX11_land_49 rfl ?_
    refine y_geti dX11_land_50 F_M_96 (fxo_127 hx) rfl (show _ = nI n2 from by rw [xo (by decide), xf (by decide), xs]) ?_
    refine x_iadd dX11_land_53 ?_
    refine x_bipush (v := 9) dX11_land_54 (by decide) ?_
    refine y_iastore dX11_land_56 (fxk_128 hx) (vi (j := (217 + n2)) (nadd (a := 217) (b := n2) rfl rfl) (by omega) (by decide)) (ci (j := (217 + n2)) (nadd (a := 217) (b := n2) rfl rfl) (by omega)) ?_
    refine x_aload_n dX11_land_57 rfl ?_
    refine y_getr dX11_land_58 F_M_9 (fxo_127 hx) rfl (fxp_127_1 hx) ?_
    refine x_sipush (v := 222) dX11_land_61 (by decide) ?_
    refine x_aload_n dX11_land_64 rfl ?_
    refine y_geti dX11_land_65 F_M_96 (fxo_127 hx) rfl (show _ = nI n2 from by rw [xo (by decide), xo (by decide), xf (by decide), xs]) ?_
    refine x_iadd dX11_land_68 ?_
    refine x_iconst (v := 0) dX11_land_69 (by decide) ?_
    refine y_iastore dX11_land_70 (fxk_128 hx) (vi (j := (222 + n2)) (nadd (a := 222) (b := n2) rfl rfl) (by omega) (by decide)) (ci (j := (222 + n2)) (nadd (a := 222) (b := n2) rfl rfl) (by omega)) ?_
    refine x_aload_n dX11_land_71 rfl ?_
    refine y_getr dX11_land_72 F_M_9 (fxo_127 hx) rfl (fxp_127_1 hx) ?_
    refine x_sipush (v := 227) dX11_land_75 (by decide) ?_
    refine x_aload_n dX11_land_78 rfl ?_
    refine y_geti dX11_land_79 F_M_96 (fxo_127 hx) rfl (show _ = nI n2 from by rw [xo (by decide), xo (by decide), xo (by decide), xf (by decide), xs]) ?_
    refine x_iadd dX11_land_82 ?_
    refine x_iconst (v := 0) dX11_land_83 (by decide) ?_
    refine y_iastore dX11_land_84 (fxk_128 hx) (vi (j := (227 + n2)) (nadd (a := 227) (b := n2) rfl rfl) (by omega) (by decide)) (ci (j := (227 + n2)) (nadd (a := 227) (b := n2) rfl rfl) (by omega)) ?_
    refine x_aload_n dX11_land_85 rfl ?_
    refine x_iconst (v := 0) dX11_land_86 (by decide) ?_
    refine x_puti dX11_land_87 F_M_69 T_11_5 (fxo_127 hx) rfl rfl rfl ?_
    refine x_aload_n dX11_land_90 rfl ?_
    refine x_iconst (v := 0) dX11_land_91 (by decide) ?_
    refine x_puti dX11_land_92 F_M_75 T_11_7 (fxo_127 hx) rfl rfl rfl ?_
    refine x_aload_n dX11_land_95 rfl ?_
    refine x_iconst (v := 0) dX11_land_96 (by decide) ?_
    refine x_puti dX11_land_97 F_M_99 T_11_8 (fxo_127 hx) rfl rfl rfl ?_
    obtain ⟨I0, hI0⟩ : ∃ I0, I0 = xup (xup (xup (xup (xup (xup (xup (xup (xup I 127 4 (nI n2)) 127 6 (nI n7)) 128 7 0) 128 (217 + n2) 9) 128 (222 + n2) 0) 128 (227 + n2) 0) 127 5 0) 127 7 0) 127 8 0 := ⟨_, rfl⟩
    refine y_st (I' := I0) hI0.symm ?_
    have g4 : I0 127 4 = nI n2 := by rw [hI0, xf (by decide), xf (by decide), xf (by decide), xo (by decide), xo (by decide), xo (by decide), xo (by decide), xf (by decide), xs]
    have g6 : I0 127 6 = nI n7 := by rw [hI0, xf (by decide), xf (by decide), xf (by decide), xo (by decide), xo (by decide), xo (by decide), xo (by decide), xs]
    have g5 : I0 127 5 = nI 0 := by rw [hI0, xf (by decide), xf (by decide), xs]; rfl
    have g7 : I0 127 7 = bv false := by rw [hI0, xf (by decide), xs]; rfl
    have g8 : I0 127 8 = nI 0 := by rw [hI0, xs]; rfl
    have gF : xFrm [127, 128] I I0 := by rw [hI0]; exact xFrs (xFrs (xFrs (xFrs (xFrs (xFrs (xFrs (xFrs (xFrs xFrm.rf))))))))
    have gD : xFd [4, 5, 6, 7, 8] I I0 := by rw [hI0]; exact xFdx (xFdx (xFdx (xFdn (xFdn (xFdn (xFdn (xFdx (xFdx xFd.rf))))))))
    have gS : I0 128 = upd (upd (upd (upd (I 128) 7 0) (217 + n2) 9) (222 + n2) 0) (227 + n2) 0 := by
      rw [hI0]; funext j
      rw [xo (by decide), xo (by decide), xo (by decide), xup_at, xup_at, xup_at, xup_at, xo (by decide), xo (by decide)]
      unfold upd
      grind
    have gL : xLy (I 128) (I0 128) n2 [] [] := by
      rw [gS]
      refine ⟨fun j q1 q2 q3 q4 q5 => by rw [upd_n q5, upd_n q4, upd_n q3, upd_n q2], by rw [upd_n (by omega), upd_n (by omega), upd_n (by omega), upd_e], by rw [upd_e]; rfl, fun j hj => absurd hj (Nat.not_lt_zero j), by rw [upd_n (by omega), upd_n (by omega), upd_e]; rfl, by rw [upd_n (by omega), upd_e]; rfl, mL.nil⟩
    have gT : hrT (txt (I0 128)) n7 = hrT T n7 := by
      rw [hTd]; funext q
      unfold hrT
      by_cases hq : q < n7
      · rw [if_pos hq, if_pos hq]; show I0 128 (117 + q) = I 128 (117 + q); rw [gS, upd_n (by omega), upd_n (by omega), upd_n (by omega), upd_n (by omega)]
      · rw [if_neg hq, if_neg hq]
    have gP : xPa I0 T n7 0 false 0 n2 0 := ⟨⟨g5, g6, g7, b7, by omega⟩, g8, g4, by omega, gL.2.2.1, Nat.le_refl _, Nat.zero_le _, gT⟩
    refine x_iconst (v := 1) dX11_land_100 (by decide) ?_
    refine x_istore_n dX11_land_101 (Nat.le_of_ble_eq_true rfl) ?_
    try simp only [xst, xst2, xclr, xset, xwide]
    refine x_aload_n dX11_land_102 rfl ?_
    refine x_callV (k2 := 0) (n2 := 0) dX11_land_103 LV_M_144 (r_clauseHere (I := I0) hx gP) rfl rfl (fxo_127 hx) rfl (Nat.le_of_ble_eq_true rfl) (Nat.le_of_ble_eq_true rfl) (Nat.le_of_ble_eq_true rfl) (Nat.le_of_ble_eq_true rfl) ?_
    rintro _ _ ⟨I1, sq, rfl, rfl, hF1, hD1, hR1⟩
    have hC2 : ∃ w : Bool, I1 127 7 = bv w ∧ I1 127 5 = nI sq ∧ I1 127 6 = nI n7 ∧ sq ≤ 200 ∧ ((w = true ∧ clR T n7 0 none sq ∧ xRd I1 sq n7 true ∧ (∀ j, j < 232 + 140 * n2 → j ≠ 7 → j ≠ 217 + n2 → j ≠ 222 + n2 → j ≠ 227 + n2 → I1 128 j = I 128 j) ∧ I1 128 7 = 0) ∨ (w = false ∧ ∃ c5 L cv, clR T n7 0 (some c5) sq ∧ xPa I1 T n7 sq false 0 n2 L.length ∧ xLy (I 128) (I1 128) n2 L cv ∧ csOf (([] : List CL) ++ [c5]) cv)) := by
      rcases hR1 with ⟨z1, z2, z3⟩ | ⟨k, nn, tk, v, L', z1, z2, z3, z4, z5, z6, z7, z8⟩
      · refine ⟨true, z2.2.2.1, z2.1, z2.2.1, z2.2.2.2.2, Or.inl ⟨rfl, z1, z2, fun j q1 q2 q3 q4 q5 => (z3 j q1 q3 q4 q5).trans (gL.1 j q1 q2 q3 q4 q5), (z3 7 (by omega) (by omega) (by omega) (by omega)).trans gL.2.1⟩⟩
      · exact ⟨false, z5.1.2.2.1, z5.1.1, z5.1.2.1, z5.1.2.2.2.2, Or.inr ⟨rfl, (k, nI nn, tk), [] ++ L', [] ++ [(k, nI nn, v)], z1, by rw [List.length_append]; exact z5, gL.st (by omega) z6 z2 z3 z7 z8, ⟨⟨z2, rfl, rfl, ⟨nn, z3, rfl⟩, z4⟩, trivial⟩⟩⟩
    obtain ⟨w1, f7, f5, f6, fs, fC⟩ := hC2
    have K106 : ∀ (fuel : Nat) (n q sp1 : Nat) (w : Bool) (cs : List CL) (I2 : Nat → Nat → Int32) (hn1 : 1 ≤ n) (hn : n ≤ 10) (hF : xFrm [127, 128] I I2) (hD : xFd [4, 5, 6, 7, 8] I I2) (h4 : I2 127 4 = nI n2) (hw : I2 127 7 = bv w) (h5 : I2 127 5 = nI sp1) (h6 : I2 127 6 = nI n7) (hs : sp1 ≤ 200) (hK : ∀ res sp, ldF T n7 (10 - n + 1) q res sp → ldF T n7 10 0 (res.map (fun l => cs ++ l)) sp) (hC : ((w = true ∧ clR T n7 q none sp1 ∧ xRd I2 sp1 n7 true ∧ (∀ j, j < 232 + 140 * n2 → j ≠ 7 → j ≠ 217 + n2 → j ≠ 222 + n2 → j ≠ 227 + n2 → I2 128 j = I 128 j) ∧ I2 128 7 = 0) ∨ (w = false ∧ ∃ c L cv, clR T n7 q (some c) sp1 ∧ xPa I2 T n7 sp1 false 0 n2 L.length ∧ xLy (I 128) (I2 128) n2 L cv ∧ csOf (cs ++ [c]) cv))), 11 - n < fuel → xX g Y_M_land 25 0 0 (xLq nx sh P I) 106 [some (.ref 127), some (.int (nI n))] [] (nx, sh, P, I2) := by
      intro fuel
      induction fuel with
      | zero => intro n q sp1 w cs I2 hn1 hn hF hD h4 hw h5 h6 hs hK hC hm; exact absurd hm (Nat.not_lt_zero _)
      | succ fuel ih106 =>
        intro n q sp1 w cs I2 hn1 hn hF hD h4 hw h5 h6 hs hK hC hm
        refine x_aload_n dX11_land_106 rfl ?_
        have J148 : ∀ (hE : w = true ∨ (w = false ∧ (10 ≤ n ∨ ¬ hrT T n7 sp1 = 59))), xX g Y_M_land 25 0 0 (xLq nx sh P I) 148 [some (.ref 127), some (.int (nI n))] [] (nx, sh, P, I2) := by
          intro hE
          refine x_aload_n dX11_land_148 rfl ?_
          refine y_geti dX11_land_149 F_M_75 (fxo_127 hx) rfl hw ?_
          refine x_if_ne (tgt := 166) dX11_land_152 rfl (fun c152 => ?_) (fun c152 => ?_)
          · have hw1 : w = true := bv_1 c152
            refine x_bipush (v := (-10)) dX11_land_166 (by decide) ?_
            refine x_aload_n dX11_land_168 rfl ?_
            refine y_geti dX11_land_169 F_M_69 (fxo_127 hx) rfl h5 ?_
            refine x_isub dX11_land_172 ?_
            refine x_ireturn dX11_land_173 rfl nb_int ?_
            obtain ⟨hb1, hb2, hb4⟩ : (∀ j, j < 232 + 140 * n2 → j ≠ 7 → j ≠ 217 + n2 → j ≠ 222 + n2 → j ≠ 227 + n2 → I2 128 j = I 128 j) ∧ I2 128 7 = 0 ∧ ldF T n7 10 0 none sp1 := by
              refine hC.elim (fun z => ⟨z.2.2.2.1, z.2.2.2.2, hK none sp1 (Or.inl ⟨z.2.1, rfl⟩)⟩) ?_
              rintro ⟨hw0, d9, L9, cv9, hc9, -, hl9, -⟩
              have hsn : ¬ sp1 = n7 := by first | assumption | exact absurd (hw1.symm.trans hw0) (by decide)
              exact ⟨hl9.1, hl9.2.1, hK none sp1 (Or.inr ⟨d9, sp1, hc9, Or.inr (Or.inl ⟨hsn, hE.elim (fun z => absurd (z.symm.trans hw0) (by decide)) (fun z => z.2.elim (fun y => Or.inl (by omega)) Or.inr), rfl, rfl⟩)⟩)⟩
            obtain ⟨r1, r2, r3, r4⟩ := ld_bad hR e2 hn24 hb1 hb2
            rw [hTd] at hb4
            exact ⟨I2, -10 - nI sp1, rfl, rfl, hF, hD, Or.inr ⟨h25, none, sp1, by rw [cN_of e7 (by omega)]; exact hb4, hs, r1, fun j a1 a2 a3 a4 => hb1 j (by omega) a3 (by omega) (by omega) (by omega), hb2, Or.inl ⟨rfl, rfl, hb1 2 (by omega) (by omega) (by omega) (by omega) (by omega), hb1 8 (by omega) (by omega) (by omega) (by omega) (by omega), r2, r3, r4⟩⟩⟩
          · have hw0 : w = false := bv_0 c152
            obtain ⟨c, L, cv, hc, p2, hl2, hcs⟩ : ∃ c L cv, clR T n7 q (some c) sp1 ∧ xPa I2 T n7 sp1 false 0 n2 L.length ∧ xLy (I 128) (I2 128) n2 L cv ∧ csOf (cs ++ [c]) cv := hC.elim (fun z => by rw [hw0] at z; cases z.1) (fun z => z.2)
            have hse := p2.2.2.2.2.2.2.1
            refine x_aload_n dX11_land_155 rfl ?_
            refine y_geti dX11_land_156 F_M_69 (fxo_127 hx) rfl h5 ?_
            refine x_aload_n dX11_land_159 rfl ?_
            refine y_geti dX11_land_160 F_M_72 (fxo_127 hx) rfl h6 ?_
            refine x_icmp_eq (tgt := 174) dX11_land_163 rfl (fun c163 => ?_) (fun c163 => ?_)
            · have hsn : sp1 = n7 := (nI_eqI (by omega) (by omega)).mp c163
              refine x_aload_n dX11_land_174 rfl ?_
              refine y_getr dX11_land_175 F_M_9 (fxo_127 hx) rfl (fxp_127_1 hx) ?_
              refine x_iconst (v := 2) dX11_land_178 (by decide) ?_
              refine x_dup2 dX11_land_179 rfl rfl ?_
              refine y_iaload dX11_land_180 (fxk_128 hx) (vi (j := 2) rfl (by omega) (by decide)) (rI (j := 2) rfl (show _ = nI n2 from (hl2.1 2 (by omega) (by omega) (by omega) (by omega) (by omega)).trans e2)) ?_
              refine x_iconst (v := 1) dX11_land_181 (by decide) ?_
              refine x_iadd dX11_land_182 ?_
              rw [nI_1]
              refine y_iastore dX11_land_183 (fxk_128 hx) (vi (j := 2) rfl (by omega) (by decide)) (ci (j := 2) rfl (by omega)) ?_
              refine x_aload_n dX11_land_184 rfl ?_
              refine y_getr dX11_land_185 F_M_9 (fxo_127 hx) rfl (fxp_127_1 hx) ?_
              refine x_bipush (v := 8) dX11_land_188 (by decide) ?_
              refine x_aload_n dX11_land_190 rfl ?_
              refine y_geti dX11_land_191 F_M_96 (fxo_127 hx) rfl (show _ = nI n2 from by rw [xo (by decide)]; exact h4) ?_
              refine y_iastore dX11_land_194 (fxk_128 hx) (vi (j := 8) rfl (by omega) (by decide)) (ci (j := 8) rfl (by omega)) ?_
              refine x_aload_n dX11_land_195 rfl ?_
              refine y_geti dX11_land_196 F_M_96 (fxo_127 hx) rfl (show _ = nI n2 from by rw [xo (by decide), xo (by decide)]; exact h4) ?_
              refine x_ireturn dX11_land_199 rfl nb_int ?_
              have hld := hK (some [c]) sp1 (Or.inr ⟨c, sp1, hc, Or.inl ⟨hsn, rfl, rfl⟩⟩)
              have hcl := ldF_l (show ldF T n7 10 0 (some (cs ++ [c])) sp1 from hld)
              have hmm := p2.2.2.2.2.2.1
              obtain ⟨r1, r2, r3, r4, r5, r6, r7, r8⟩ := ld_good hR e2 hn24 hl2 hcs (by omega) hcl (s2 := xup (xup I2 128 2 (nI (n2 + 1))) 128 8 (nI n2) 128) (by rw [xup_va, va_up_at, xup_va, va_up_at])
              rw [hTd] at hld
              exact ⟨_, nI n2, rfl, rfl, xFrs (xFrs hF), xFdn (xFdn hD), Or.inr ⟨h25, some (cs ++ [c]), sp1, by rw [cN_of e7 (by omega)]; exact hld, hs, r1, r5, r6, Or.inr ⟨cs ++ [c], cv, rfl, hcs, e2.symm, by rw [r7, e2, nI_1], by rw [r8, e2], r2, r3, r4⟩⟩⟩
            · have hsn : ¬ sp1 = n7 := fun z => c163 (by rw [z])
              refine x_bipush (v := (-10)) dX11_land_166 (by decide) ?_
              refine x_aload_n dX11_land_168 rfl ?_
              refine y_geti dX11_land_169 F_M_69 (fxo_127 hx) rfl h5 ?_
              refine x_isub dX11_land_172 ?_
              refine x_ireturn dX11_land_173 rfl nb_int ?_
              obtain ⟨hb1, hb2, hb4⟩ : (∀ j, j < 232 + 140 * n2 → j ≠ 7 → j ≠ 217 + n2 → j ≠ 222 + n2 → j ≠ 227 + n2 → I2 128 j = I 128 j) ∧ I2 128 7 = 0 ∧ ldF T n7 10 0 none sp1 := by
                refine hC.elim (fun z => ⟨z.2.2.2.1, z.2.2.2.2, hK none sp1 (Or.inl ⟨z.2.1, rfl⟩)⟩) ?_
                rintro ⟨hw0, d9, L9, cv9, hc9, -, hl9, -⟩
                have hsn : ¬ sp1 = n7 := by first | assumption | exact absurd (hw1.symm.trans hw0) (by decide)
                exact ⟨hl9.1, hl9.2.1, hK none sp1 (Or.inr ⟨d9, sp1, hc9, Or.inr (Or.inl ⟨hsn, hE.elim (fun z => absurd (z.symm.trans hw0) (by decide)) (fun z => z.2.elim (fun y => Or.inl (by omega)) Or.inr), rfl, rfl⟩)⟩)⟩
              obtain ⟨r1, r2, r3, r4⟩ := ld_bad hR e2 hn24 hb1 hb2
              rw [hTd] at hb4
              exact ⟨I2, -10 - nI sp1, rfl, rfl, hF, hD, Or.inr ⟨h25, none, sp1, by rw [cN_of e7 (by omega)]; exact hb4, hs, r1, fun j a1 a2 a3 a4 => hb1 j (by omega) a3 (by omega) (by omega) (by omega), hb2, Or.inl ⟨rfl, rfl, hb1 2 (by omega) (by omega) (by omega) (by omega) (by omega), hb1 8 (by omega) (by omega) (by omega) (by omega) (by omega), r2, r3, r4⟩⟩⟩
        refine y_geti dX11_land_107 F_M_75 (fxo_127 hx) rfl hw ?_
        refine x_if_ne (tgt := 148) dX11_land_110 rfl (fun c110 => ?_) (fun c110 => ?_)
        · first | exact J148 (Or.inl (bv_1 c110)) | exact J148 (Or.inr ⟨hw0, Or.inl ((nI_leI (by decide) (by omega)).mp c116)⟩) | exact J148 (Or.inr ⟨hw0, Or.inr c125⟩)
        · have hw0 : w = false := bv_0 c110
          obtain ⟨c, L, cv, hc, p2, hl2, hcs⟩ : ∃ c L cv, clR T n7 q (some c) sp1 ∧ xPa I2 T n7 sp1 false 0 n2 L.length ∧ xLy (I 128) (I2 128) n2 L cv ∧ csOf (cs ++ [c]) cv := hC.elim (fun z => by rw [hw0] at z; cases z.1) (fun z => z.2)
          refine x_iload_n dX11_land_113 rfl ?_
          refine x_bipush (v := 10) dX11_land_114 (by decide) ?_
          refine x_icmp_ge (tgt := 148) dX11_land_116 rfl (fun c116 => ?_) (fun c116 => ?_)
          · first | exact J148 (Or.inl (bv_1 c110)) | exact J148 (Or.inr ⟨hw0, Or.inl ((nI_leI (by decide) (by omega)).mp c116)⟩) | exact J148 (Or.inr ⟨hw0, Or.inr c125⟩)
          · have hn10 : n < 10 := Nat.lt_of_not_le (fun z => c116 ((nI_leI (by decide) (by omega)).mpr z))
            refine x_aload_n dX11_land_119 rfl ?_
            refine x_callV (k2 := 0) (n2 := 0) dX11_land_120 LV_M_79 (q_here hx p2) rfl rfl (fxo_127 hx) rfl (Nat.le_of_ble_eq_true rfl) (Nat.le_of_ble_eq_true rfl) (Nat.le_of_ble_eq_true rfl) (Nat.le_of_ble_eq_true rfl) ?_
            rintro _ _ ⟨rfl, rfl⟩
            refine x_bipush (v := 59) dX11_land_123 (by decide) ?_
            refine x_icmp_ne (tgt := 148) dX11_land_125 rfl (fun c125 => ?_) (fun c125 => ?_)
            · first | exact J148 (Or.inl (bv_1 c110)) | exact J148 (Or.inr ⟨hw0, Or.inl ((nI_leI (by decide) (by omega)).mp c116)⟩) | exact J148 (Or.inr ⟨hw0, Or.inr c125⟩)
            · have hlt : sp1 < n7 := hrT_lt (T := T) (by rw [c125]; decide)
              refine x_aload_n dX11_land_128 rfl ?_
              refine x_dup dX11_land_129 rfl ?_
              refine y_geti dX11_land_130 F_M_69 (fxo_127 hx) rfl h5 ?_
              refine x_iconst (v := 1) dX11_land_133 (by decide) ?_
              refine x_iadd dX11_land_134 ?_
              rw [nI_1]
              refine x_puti dX11_land_135 F_M_69 T_11_5 (fxo_127 hx) rfl rfl rfl ?_
              obtain ⟨t3, p3⟩ := p2.sp hlt
              obtain ⟨I3, hI3⟩ : ∃ I3, I3 = xup I2 127 5 (nI (sp1 + 1)) := ⟨_, rfl⟩
              rw [← hI3] at t3 p3
              refine y_st (I' := I3) hI3.symm ?_
              have e3 : I3 128 = I2 128 := by rw [hI3]; exact xup_n (by decide)
              refine x_aload_n dX11_land_138 rfl ?_
              refine x_callV (k2 := 0) (n2 := 0) dX11_land_139 LV_M_144 (r_clauseHere (I := I3) hx p3) rfl rfl (fxo_127 hx) rfl (Nat.le_of_ble_eq_true rfl) (Nat.le_of_ble_eq_true rfl) (Nat.le_of_ble_eq_true rfl) (Nat.le_of_ble_eq_true rfl) ?_
              rintro _ _ ⟨I4, sp4, rfl, rfl, hF4, hD4, hR1⟩
              rw [e3] at hR1
              have hC2 : ∃ w : Bool, I4 127 7 = bv w ∧ I4 127 5 = nI sp4 ∧ I4 127 6 = nI n7 ∧ sp4 ≤ 200 ∧ ((w = true ∧ clR T n7 (sp1 + 1) none sp4 ∧ xRd I4 sp4 n7 true ∧ (∀ j, j < 232 + 140 * n2 → j ≠ 7 → j ≠ 217 + n2 → j ≠ 222 + n2 → j ≠ 227 + n2 → I4 128 j = I 128 j) ∧ I4 128 7 = 0) ∨ (w = false ∧ ∃ c5 L cv, clR T n7 (sp1 + 1) (some c5) sp4 ∧ xPa I4 T n7 sp4 false 0 n2 L.length ∧ xLy (I 128) (I4 128) n2 L cv ∧ csOf ((cs ++ [c]) ++ [c5]) cv)) := by
                rcases hR1 with ⟨z1, z2, z3⟩ | ⟨k, nn, tk, v, L', z1, z2, z3, z4, z5, z6, z7, z8⟩
                · refine ⟨true, z2.2.2.1, z2.1, z2.2.1, z2.2.2.2.2, Or.inl ⟨rfl, z1, z2, fun j q1 q2 q3 q4 q5 => (z3 j q1 q3 q4 q5).trans (hl2.1 j q1 q2 q3 q4 q5), (z3 7 (by omega) (by omega) (by omega) (by omega)).trans hl2.2.1⟩⟩
                · exact ⟨false, z5.1.2.2.1, z5.1.1, z5.1.2.1, z5.1.2.2.2.2, Or.inr ⟨rfl, (k, nI nn, tk), L ++ L', cv ++ [(k, nI nn, v)], z1, by rw [List.length_append]; exact z5, hl2.st (by omega) z6 z2 z3 z7 z8, csOf_a hcs ⟨z2, rfl, rfl, ⟨nn, z3, rfl⟩, z4⟩⟩⟩
              obtain ⟨w4, f7, f5, f6, fs, fC⟩ := hC2
              have hK2 : ∀ res sp, ldF T n7 (10 - (n + 1) + 1) (sp1 + 1) res sp → ldF T n7 10 0 (res.map (fun l => cs ++ [c] ++ l)) sp := fun res sp h => by
                rw [show 10 - (n + 1) + 1 = 10 - n by omega] at h
                have h9 := hK (res.map (fun l => c :: l)) sp (Or.inr ⟨c, sp1, hc, Or.inr (Or.inr ⟨by omega, c125, res, h, rfl⟩)⟩)
                cases res with
                | none => exact h9
                | some l =>
                  show ldF T n7 10 0 (some (cs ++ [c] ++ l)) sp
                  rw [List.append_assoc]; exact h9
              refine x_iinc (v := (nI (n + 1))) dX11_land_142 rfl (nI_1 _) (Nat.le_of_ble_eq_true rfl) ?_
              try simp only [xst, xst2, xclr, xset, xwide]
              refine x_goto (tgt := 106) dX11_land_145 rfl ?_
              exact ih106 (n + 1) (sp1 + 1) sp4 w4 (cs ++ [c]) I4 (by omega) (by omega) (hF.tr (l1 := [127, 128]) (l2 := [127, 128]) (t3.1.tr (l1 := [127, 128]) (l2 := [127, 128]) hF4)) (xFd.tr (l := [4, 5, 6, 7, 8]) (l1 := [4, 5, 6, 7, 8]) (l2 := [5, 7, 8]) hD (xFd.tr (l := [5, 7, 8]) (l1 := [5, 7, 8]) (l2 := [5, 7, 8]) t3.2.1 hD4)) ((hD4 4 (by decide)).trans p3.2.2.1) f7 f5 f6 fs hK2 fC (by omega)
    exact K106 _ 1 0 sq w1 [] I1 (Nat.le_refl _) (by omega) (gF.tr (l1 := [127, 128]) (l2 := [127, 128]) hF1) (xFd.tr (l := [4, 5, 6, 7, 8]) (l1 := [4, 5, 6, 7, 8]) (l2 := [5, 7, 8]) gD hD1) ((hD1 4 (by decide)).trans g4) f7 f5 f6 fs (fun res sp h => by cases res <;> exact h) fC (Nat.lt_succ_self _)
  · have h25 : I 128 2 = 5 := by rw [e2]; exact c7
    refine x_bipush (v := (-4)) dX11_land_10 (by decide) ?_
    refine x_ireturn dX11_land_12 rfl nb_int ?_
    exact ⟨I, -4, rfl, rfl, xFrm.rf, xFd.rf, Or.inl ⟨h25, rfl, rfl⟩⟩
