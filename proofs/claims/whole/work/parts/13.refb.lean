/-! the reference: worths, payings, simple calls -/
theorem nadd {x y : Int32} {a b : Nat} (ha : x = nI a) (hb : y = nI b) : x + y = nI (a + b) := by subst ha; subst hb; exact nI_add a b
theorem nmul {x y : Int32} {a b : Nat} (ha : x = nI a) (hb : y = nI b) : x * y = nI (a * b) := by subst ha; subst hb; exact pk_mul a b
/-- WORTH of coin c, 0 where there is none -/
def wv (s : Nat → Int32) (c : Nat) : Int32 := if c < cN s 0 then wc s c else 0
theorem RI.kd {s : Nat → Int32} (h : RI s) {c : Nat} (hc : c < cN s 0) : ∃ k, k ≤ 6 ∧ s (10 + c) = nI k := (h.2.2.2.1 c hc).1

set_option maxHeartbeats 4000000 in
set_option maxRecDepth 100000 in
theorem r_looksForWorths {g : xG} {nx : Nat} {sh : Nat → Nat × Nat} {P : Nat → Nat → Option Nat} {I : Nat → Nat → Int32} (hx : xFx sh P) (hR : RI (I 128)) : xMet g Y_M_looksForWorths 3 0 0 [.ref 127] (nx, sh, P, I) (fun r σ => ∃ I1 : Nat → Nat → Int32, r = none ∧ σ = (nx, sh, P, I1) ∧ xFrm [130, 131, 132] I I1 ∧ ∀ j, j < 4 → I1 132 j = wv (I 128) j) := by
  refine xMet.of [some (.ref 127), none] (by decide +kernel) (Nat.le_of_ble_eq_true rfl) rfl ?_
  refine x_iconst (v := 0) dX11_looksForWorths_0 (by decide) ?_
  refine x_istore_n dX11_looksForWorths_1 (Nat.le_of_ble_eq_true rfl) ?_
  try simp only [xst, xst2, xclr, xset, xwide]
  have K2 : ∀ (fuel : Nat) (i : Nat) (I1 : Nat → Nat → Int32) (hi : i ≤ 4) (hF : xFrm [130, 131, 132] I I1) (hW : ∀ j, j < i → I1 132 j = wv (I 128) j), 4 - i < fuel → xX g Y_M_looksForWorths 3 0 0 (fun r σ => ∃ I1 : Nat → Nat → Int32, r = none ∧ σ = (nx, sh, P, I1) ∧ xFrm [130, 131, 132] I I1 ∧ ∀ j, j < 4 → I1 132 j = wv (I 128) j) 2 [some (.ref 127), some (.int (nI i))] [] (nx, sh, P, I1) := by
    intro fuel
    induction fuel with
    | zero => intro i I1 hi hF hW hm; exact absurd hm (Nat.not_lt_zero _)
    | succ fuel ih2 =>
      intro i I1 hi hF hW hm
      have e128 : I1 128 = I 128 := hF 128 (by decide)
      have h04 := hR.c0.2
      refine x_iload_n dX11_looksForWorths_2 rfl ?_
      refine x_iconst (v := 4) dX11_looksForWorths_3 (by decide) ?_
      refine x_icmp_ge (tgt := 47) dX11_looksForWorths_4 rfl (fun c4 => ?_) (fun c4 => ?_)
      · have hie : i = 4 := cge_t (by decide) hi c4
        refine x_return dX11_looksForWorths_47 rfl ?_
        subst hie
        exact ⟨I1, rfl, rfl, hF, hW⟩
      · have him : i < 4 := cge_f (by decide) hi c4
        refine x_aload_n dX11_looksForWorths_7 rfl ?_
        refine y_getr dX11_looksForWorths_8 F_M_25 (fxo_127 hx) rfl (fxp_127_11 hx) ?_
        refine x_iload_n dX11_looksForWorths_11 rfl ?_
        refine x_iload_n dX11_looksForWorths_12 rfl ?_
        refine x_aload_n dX11_looksForWorths_13 rfl ?_
        refine y_getr dX11_looksForWorths_14 F_M_9 (fxo_127 hx) rfl (fxp_127_1 hx) ?_
        refine x_iconst (v := 0) dX11_looksForWorths_17 (by decide) ?_
        refine y_iaload dX11_looksForWorths_18 (fxk_128 hx) (vi (j := 0) rfl (by omega) (by decide)) (rI (j := 0) (ci rfl (by omega)) (congrFun e128 _)) ?_
        rw [hR.c0.1]
        refine x_icmp_ge (tgt := 39) dX11_looksForWorths_19 rfl (fun c19 => ?_) (fun c19 => ?_)
        · have hwi : (0 : Int32) = wv (I 128) i := by unfold wv; rw [if_neg]; have := (nI_leI (by omega) (by omega)).mp c19; omega
          have hF2 := hF
          have hW2 := hW
          refine x_iconst (v := 0) dX11_looksForWorths_39 (by decide) ?_
          refine y_iastore dX11_looksForWorths_40 (fxk_132 hx) (vi (j := i) rfl (by omega) (by decide)) (ci (j := i) rfl (by omega)) ?_
          refine x_iinc (v := (nI (i + 1))) dX11_looksForWorths_41 rfl (nI_1 _) (Nat.le_of_ble_eq_true rfl) ?_
          try simp only [xst, xst2, xclr, xset, xwide]
          refine x_goto (tgt := 2) dX11_looksForWorths_44 rfl ?_
          exact ih2 (i + 1) _ (by omega) (hF2.xup) (fun j hj => by
            rw [xup_at]
            by_cases hji : j = i
            · rw [if_pos ⟨rfl, hji⟩, hji]; exact hwi
            · rw [if_neg (fun z => hji z.2)]; exact (hW2 j (by omega))) (by omega)
        · have hic : i < cN (I 128) 0 := (nI_ltI (by omega) (by omega)).mp (Int32.not_le.mp c19)
          refine x_aload_n dX11_looksForWorths_22 rfl ?_
          refine x_iload_n dX11_looksForWorths_23 rfl ?_
          refine x_aload_n dX11_looksForWorths_24 rfl ?_
          refine y_getr dX11_looksForWorths_25 F_M_9 (fxo_127 hx) rfl (fxp_127_1 hx) ?_
          refine x_bipush (v := 18) dX11_looksForWorths_28 (by decide) ?_
          refine x_iload_n dX11_looksForWorths_30 rfl ?_
          refine x_iadd dX11_looksForWorths_31 ?_
          refine y_iaload dX11_looksForWorths_32 (fxk_128 hx) (vi (j := (18 + i)) (nadd (a := 18) (b := i) rfl rfl) (by omega) (by decide)) (rI (j := (18 + i)) (ci (nadd (a := 18) (b := i) rfl rfl) (by omega)) (congrFun e128 _)) ?_
          refine x_callV (k2 := 0) (n2 := 0) dX11_looksForWorths_33 LV_M_158 (r_worthOf (I := I1) (c := i) hx him (by rw [e128]; exact hR) (by rw [e128]; exact hR.kd hic)) rfl rfl (fxo_127 hx) rfl (Nat.le_of_ble_eq_true rfl) (Nat.le_of_ble_eq_true rfl) (Nat.le_of_ble_eq_true rfl) (Nat.le_of_ble_eq_true rfl) ?_
          rintro _ _ ⟨I2, rfl, rfl, hF3⟩
          have hF2 : xFrm [130, 131, 132] I I2 := hF.tr hF3
          have hW2 : ∀ j, j < i → I2 132 j = wv (I 128) j := fun j hj => (congrFun (hF3 132 (by decide)) j).trans (hW j hj)
          have hwi : wo (I1 128) i (I 128 (18 + i)) (I1 128 (22 + i)) (I1 128 9) = wv (I 128) i := by rw [e128]; unfold wv; rw [if_pos hic]; rfl
          refine x_goto (tgt := 40) dX11_looksForWorths_36 rfl ?_
          refine y_iastore dX11_looksForWorths_40 (fxk_132 hx) (vi (j := i) rfl (by omega) (by decide)) (ci (j := i) rfl (by omega)) ?_
          refine x_iinc (v := (nI (i + 1))) dX11_looksForWorths_41 rfl (nI_1 _) (Nat.le_of_ble_eq_true rfl) ?_
          try simp only [xst, xst2, xclr, xset, xwide]
          refine x_goto (tgt := 2) dX11_looksForWorths_44 rfl ?_
          exact ih2 (i + 1) _ (by omega) (hF2.xup) (fun j hj => by
            rw [xup_at]
            by_cases hji : j = i
            · rw [if_pos ⟨rfl, hji⟩, hji]; exact hwi
            · rw [if_neg (fun z => hji z.2)]; exact (hW2 j (by omega))) (by omega)
  exact K2 _ 0 I (by decide) xFrm.rf (fun j hj => absurd hj (Nat.not_lt_zero j)) (Nat.lt_succ_self _)
