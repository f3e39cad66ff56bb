/-! the reference: questions -/
/-- what the first n coins in the purse are worth -/
def rcS (s : Nat → Int32) : Nat → Int32
  | 0 => 0
  | n + 1 => rcS s n + s (22 + n) * wc s n
/-- how many coins the first n sorts have in the purse -/
def puS (s : Nat → Int32) : Nat → Int32
  | 0 => 0
  | n + 1 => puS s n + s (22 + n)
theorem wv_in {s : Nat → Int32} {c : Nat} (h : c < cN s 0) : wv s c = wc s c := if_pos h

set_option maxHeartbeats 4000000 in
set_option maxRecDepth 100000 in
theorem r_rich {g : xG} {nx : Nat} {sh : Nat → Nat × Nat} {P : Nat → Nat → Option Nat} {I : Nat → Nat → Int32} (hx : xFx sh P) (hR : RI (I 128)) : xMet g Y_M_rich 4 0 0 [.ref 127] (nx, sh, P, I) (fun r σ => ∃ I1 : Nat → Nat → Int32, r = some (.int (rcS (I 128) (cN (I 128) 0))) ∧ σ = (nx, sh, P, I1) ∧ xFrm [130, 131, 132] I I1) := by
  refine xMet.of [some (.ref 127), none, none] (by decide +kernel) (Nat.le_of_ble_eq_true rfl) rfl ?_
  obtain ⟨⟨n0, b0, e0⟩, ⟨n1, b1, e1⟩, ⟨n2, b2, e2⟩, ⟨n3, b3, e3⟩, ⟨n4, b4, e4⟩, ⟨n5, b5, e5⟩, ⟨n6, b6, e6⟩, ⟨n7, b7, e7⟩, ⟨n9, b9, e9⟩⟩ := hR.k
  refine x_aload_n dX11_rich_0 rfl ?_
  refine x_callV (k2 := 0) (n2 := 0) dX11_rich_1 LV_M_165 (r_looksForWorths hx hR) rfl rfl (fxo_127 hx) rfl (Nat.le_of_ble_eq_true rfl) (Nat.le_of_ble_eq_true rfl) (Nat.le_of_ble_eq_true rfl) (Nat.le_of_ble_eq_true rfl) ?_
  rintro _ _ ⟨I1, rfl, rfl, hF, hW⟩
  have e128 : I1 128 = I 128 := hF 128 (by decide)
  refine x_iconst (v := 0) dX11_rich_4 (by decide) ?_
  refine x_istore_n dX11_rich_5 (Nat.le_of_ble_eq_true rfl) ?_
  try simp only [xst, xst2, xclr, xset, xwide]
  refine x_iconst (v := 0) dX11_rich_6 (by decide) ?_
  refine x_istore_n dX11_rich_7 (Nat.le_of_ble_eq_true rfl) ?_
  try simp only [xst, xst2, xclr, xset, xwide]
  have K8 : ∀ (fuel : Nat) (i : Nat) (acc : Int32) (hi : i ≤ n0) (ha : acc = rcS (I 128) i), n0 - i < fuel → xX g Y_M_rich 4 0 0 (fun r σ => ∃ I1 : Nat → Nat → Int32, r = some (.int (rcS (I 128) (cN (I 128) 0))) ∧ σ = (nx, sh, P, I1) ∧ xFrm [130, 131, 132] I I1) 8 [some (.ref 127), some (.int acc), some (.int (nI i))] [] (nx, sh, P, I1) := by
    intro fuel
    induction fuel with
    | zero => intro i acc hi ha hm; exact absurd hm (Nat.not_lt_zero _)
    | succ fuel ih8 =>
      intro i acc hi ha hm
      refine x_iload_n dX11_rich_8 rfl ?_
      refine x_aload_n dX11_rich_9 rfl ?_
      refine y_getr dX11_rich_10 F_M_9 (fxo_127 hx) rfl (fxp_127_1 hx) ?_
      refine x_iconst (v := 0) dX11_rich_13 (by decide) ?_
      refine y_iaload dX11_rich_14 (fxk_128 hx) (vi (j := 0) rfl (by omega) (by decide)) (rI (j := 0) rfl ((congrFun e128 _).trans e0)) ?_
      refine x_icmp_ge (tgt := 43) dX11_rich_15 rfl (fun c15 => ?_) (fun c15 => ?_)
      · have hie : i = n0 := cge_t (by omega) hi c15
        refine x_iload_n dX11_rich_43 rfl ?_
        refine x_ireturn dX11_rich_44 rfl nb_int ?_
        subst hie
        exact ⟨I1, by rw [cN_of e0 (by omega), ha], rfl, hF⟩
      · have him : i < n0 := cge_f (by omega) hi c15
        refine x_iload_n dX11_rich_18 rfl ?_
        refine x_aload_n dX11_rich_19 rfl ?_
        refine y_getr dX11_rich_20 F_M_9 (fxo_127 hx) rfl (fxp_127_1 hx) ?_
        refine x_bipush (v := 22) dX11_rich_23 (by decide) ?_
        refine x_iload_n dX11_rich_25 rfl ?_
        refine x_iadd dX11_rich_26 ?_
        refine y_iaload dX11_rich_27 (fxk_128 hx) (vi (j := (22 + i)) (nadd (a := 22) (b := i) rfl rfl) (by omega) (by decide)) (rI (j := (22 + i)) (ci (nadd (a := 22) (b := i) rfl rfl) (by omega)) (congrFun e128 _)) ?_
        refine x_aload_n dX11_rich_28 rfl ?_
        refine y_getr dX11_rich_29 F_M_25 (fxo_127 hx) rfl (fxp_127_11 hx) ?_
        refine x_iload_n dX11_rich_32 rfl ?_
        refine y_iaload dX11_rich_33 (fxk_132 hx) (vi (j := i) rfl (by omega) (by decide)) (rI (j := i) (ci rfl (by omega)) (hW i (by omega))) ?_
        refine x_imul dX11_rich_34 ?_
        refine x_iadd dX11_rich_35 ?_
        refine x_istore_n dX11_rich_36 (Nat.le_of_ble_eq_true rfl) ?_
        try simp only [xst, xst2, xclr, xset, xwide]
        refine x_iinc (v := (nI (i + 1))) dX11_rich_37 rfl (nI_1 _) (Nat.le_of_ble_eq_true rfl) ?_
        try simp only [xst, xst2, xclr, xset, xwide]
        refine x_goto (tgt := 8) dX11_rich_40 rfl ?_
        exact ih8 (i + 1) _ (by omega) (by rw [ha]; show _ = rcS (I 128) i + I 128 (22 + i) * wc (I 128) i; rw [← wv_in (by rw [cN_of e0 (by omega)]; exact him)]) (by omega)
  exact K8 _ 0 0 (Nat.zero_le _) rfl (Nat.lt_succ_self _)

set_option maxHeartbeats 4000000 in
set_option maxRecDepth 100000 in
theorem r_purseMany {g : xG} {nx : Nat} {sh : Nat → Nat × Nat} {P : Nat → Nat → Option Nat} {I : Nat → Nat → Int32} (hx : xFx sh P) (hR : RI (I 128)) : xMet g Y_M_purseMany 0 0 0 [.ref 127] (nx, sh, P, I) (fun r σ => r = some (.int (puS (I 128) (cN (I 128) 0))) ∧ σ = (nx, sh, P, I)) := by
  refine xMet.of [some (.ref 127), none, none] (by decide +kernel) (Nat.le_of_ble_eq_true rfl) rfl ?_
  obtain ⟨⟨n0, b0, e0⟩, ⟨n1, b1, e1⟩, ⟨n2, b2, e2⟩, ⟨n3, b3, e3⟩, ⟨n4, b4, e4⟩, ⟨n5, b5, e5⟩, ⟨n6, b6, e6⟩, ⟨n7, b7, e7⟩, ⟨n9, b9, e9⟩⟩ := hR.k
  refine x_iconst (v := 0) dX11_purseMany_0 (by decide) ?_
  refine x_istore_n dX11_purseMany_1 (Nat.le_of_ble_eq_true rfl) ?_
  try simp only [xst, xst2, xclr, xset, xwide]
  refine x_iconst (v := 0) dX11_purseMany_2 (by decide) ?_
  refine x_istore_n dX11_purseMany_3 (Nat.le_of_ble_eq_true rfl) ?_
  try simp only [xst, xst2, xclr, xset, xwide]
  have K4 : ∀ (fuel : Nat) (i : Nat) (acc : Int32) (hi : i ≤ n0) (ha : acc = puS (I 128) i), n0 - i < fuel → xX g Y_M_purseMany 0 0 0 (fun r σ => r = some (.int (puS (I 128) (cN (I 128) 0))) ∧ σ = (nx, sh, P, I)) 4 [some (.ref 127), some (.int acc), some (.int (nI i))] [] (nx, sh, P, I) := by
    intro fuel
    induction fuel with
    | zero => intro i acc hi ha hm; exact absurd hm (Nat.not_lt_zero _)
    | succ fuel ih4 =>
      intro i acc hi ha hm
      refine x_iload_n dX11_purseMany_4 rfl ?_
      refine x_aload_n dX11_purseMany_5 rfl ?_
      refine y_getr dX11_purseMany_6 F_M_9 (fxo_127 hx) rfl (fxp_127_1 hx) ?_
      refine x_iconst (v := 0) dX11_purseMany_9 (by decide) ?_
      refine y_iaload dX11_purseMany_10 (fxk_128 hx) (vi (j := 0) rfl (by omega) (by decide)) (rI (j := 0) rfl e0) ?_
      refine x_icmp_ge (tgt := 32) dX11_purseMany_11 rfl (fun c11 => ?_) (fun c11 => ?_)
      · have hie : i = n0 := cge_t (by omega) hi c11
        refine x_iload_n dX11_purseMany_32 rfl ?_
        refine x_ireturn dX11_purseMany_33 rfl nb_int ?_
        subst hie
        exact ⟨by rw [cN_of e0 (by omega), ha], rfl⟩
      · have him : i < n0 := cge_f (by omega) hi c11
        refine x_iload_n dX11_purseMany_14 rfl ?_
        refine x_aload_n dX11_purseMany_15 rfl ?_
        refine y_getr dX11_purseMany_16 F_M_9 (fxo_127 hx) rfl (fxp_127_1 hx) ?_
        refine x_bipush (v := 22) dX11_purseMany_19 (by decide) ?_
        refine x_iload_n dX11_purseMany_21 rfl ?_
        refine x_iadd dX11_purseMany_22 ?_
        refine y_iaload dX11_purseMany_23 (fxk_128 hx) (vi (j := (22 + i)) (nadd (a := 22) (b := i) rfl rfl) (by omega) (by decide)) (rI (j := (22 + i)) (ci (nadd (a := 22) (b := i) rfl rfl) (by omega)) rfl) ?_
        refine x_iadd dX11_purseMany_24 ?_
        refine x_istore_n dX11_purseMany_25 (Nat.le_of_ble_eq_true rfl) ?_
        try simp only [xst, xst2, xclr, xset, xwide]
        refine x_iinc (v := (nI (i + 1))) dX11_purseMany_26 rfl (nI_1 _) (Nat.le_of_ble_eq_true rfl) ?_
        try simp only [xst, xst2, xclr, xset, xwide]
        refine x_goto (tgt := 4) dX11_purseMany_29 rfl ?_
        exact ih4 (i + 1) _ (by omega) (by rw [ha]; rfl) (by omega)
  exact K4 _ 0 0 (Nat.zero_le _) rfl (Nat.lt_succ_self _)

/-- WORTH of coin c by base w -/
def wb (s : Nat → Int32) (c w : Nat) : Int32 := wo s c (nI w) (s (22 + c)) (s 9)
