/-! the reference: questions -/
/-- what the first n coins in the purse are worth -/
def rcS (s : Nat → Int32) : Nat → Int32
  | 0 => 0
  | n + 1 => rcS s n + s (22 + n) * wc s n
/-- how many coins the first n sorts have in the purse -/
def puS (s : Nat → Int32) : Nat → Int32
  | 0 => 0
  | n + 1 => puS s n + s (22 + n)
theorem wv_in {s : Nat → Int32} {c : Nat} (h : c < cN s 0) : wv s c = wc s c := if_pos h

set_option maxHeartbeats 4000000 in
set_option maxRecDepth 100000 in
theorem r_rich {g : xG} {nx : Nat} {sh : Nat → Nat × Nat} {P : Nat → Nat → Option Nat} {I : Nat → Nat → Int32} (hx : xFx sh P) (hR : RI (I 128)) : xMet g Y_M_rich 4 0 0 [.ref 127] (nx, sh, P, I) (fun r σ => ∃ I1 : Nat → Nat → Int32, r = some (.int (rcS (I 128) (cN (I 128) 0))) ∧ σ = (nx, sh, P, I1) ∧ xFrm [130, 131, 132] I I1) := by
  refine xMet.of [some (.ref 127), none, none] (by decide +kernel) (Nat.le_of_ble_eq_true rfl) rfl ?_
  obtain ⟨⟨n0, b0, e0⟩, ⟨n1, b1, e1⟩, ⟨n2, b2, e2⟩, ⟨n3, b3, e3⟩, ⟨n4, b4, e4⟩, ⟨n5, b5, e5⟩, ⟨n6, b6, e6⟩, ⟨n7, b7, e7⟩, ⟨n9, b9, e9⟩⟩ := hR.k
  refine x_aload_n dX11_rich_0 rfl ?_
  refine x_callV (k2 := 0) (n2 := 0) dX11_rich_1 LV_M_165 (r_looksForWorths hx hR) rfl rfl (fxo_127 hx) rfl (Nat.le_of_ble_eq_true rfl) (Nat.le_of_ble_eq_true rfl) (Nat.le_of_ble_eq_true rfl) (Nat.le_of_ble_eq_true rfl) ?_
  rintro _ _ ⟨I1, rfl, rfl, hF, hW⟩
  have e128 : I1 128 = I 128 := hF 128 (by decide)
  refine x_iconst (v := 0) dX11_rich_4 (by decide) ?_
  refine x_istore_n dX11_rich_5 (Nat.le_of_ble_eq_true rfl) ?_
  try simp only [xst, xst2, xclr, xset, xwide]
  refine x_iconst (v := 0) dX11_rich_6 (by decide) ?_
  refine x_istore_n dX11_rich_7 (Nat.le_of_ble_eq_true rfl) ?_
  try simp only [xst, xst2, xclr, xset, xwide]
  have K8 : ∀ (fuel : Nat) (i : Nat) (acc : Int32) (hi : i ≤ n0) (ha : acc = rcS (I 128) i), n0 - i < fuel → xX g Y_M_rich 4 0 0 (fun r σ => ∃ I1 : Nat → Nat → Int32, r = some (.int (rcS (I 128) (cN (I 128) 0))) ∧ σ = (nx, sh, P, I1) ∧ xFrm [130, 131, 132] I I1) 8 [some (.ref 127), some (.int acc), some (.int (nI i))] [] (nx, sh, P, I1) := by
    intro fuel
    induction fuel with
    | zero => intro i acc hi ha hm; exact absurd hm (Nat.not_lt_zero _)
    | succ fuel ih8 =>
      intro i acc hi ha hm
      refine x_iload_n dX11_rich_8 rfl ?_
      refine x_aload_n dX11_rich_9 rfl ?_
      refine y_getr dX11_rich_10 F_M_9 (fxo_127 hx) rfl (fxp_127_1 hx) ?_
      refine x_iconst (v := 0) dX11_rich_13 (by decide) ?_
      refine y_iaload dX11_rich_14 (fxk_128 hx) (vi (j := 0) rfl (by omega) (by decide)) (rI (j := 0) rfl ((congrFun e128 _).trans e0)) ?_
      refine x_icmp_ge (tgt := 43) dX11_rich_15 rfl (fun c15 => ?_) (fun c15 => ?_)
      · have hie : i = n0 := cge_t (by omega) hi c15
        refine x_iload_n dX11_rich_43 rfl ?_
        refine x_ireturn dX11_rich_44 rfl nb_int ?_
        subst hie
        exact ⟨I1, by rw [cN_of e0 (by omega), ha], rfl, hF⟩
      · have him : i < n0 := cge_f (by omega) hi c15
        refine x_iload_n dX11_rich_18 rfl ?_
        refine x_aload_n dX11_rich_19 rfl ?_
        refine y_getr dX11_rich_20 F_M_9 (fxo_127 hx) rfl (fxp_127_1 hx) ?_
        refine x_bipush (v := 22) dX11_rich_23 (by decide) ?_
        refine x_iload_n dX11_rich_25 rfl ?_
        refine x_iadd dX11_rich_26 ?_
        refine y_iaload dX11_rich_27 (fxk_128 hx) (vi (j := (22 + i)) (nadd (a := 22) (b := i) rfl rfl) (by omega) (by decide)) (rI (j := (22 + i)) (ci (nadd (a := 22) (b := i) rfl rfl) (by omega)) (congrFun e128 _)) ?_
        refine x_aload_n dX11_rich_28 rfl ?_
        refine y_getr dX11_rich_29 F_M_25 (fxo_127 hx) rfl (fxp_127_11 hx) ?_
        refine x_iload_n dX11_rich_32 rfl ?_
        refine y_iaload dX11_rich_33 (fxk_132 hx) (vi (j := i) rfl (by omega) (by decide)) (rI (j := i) (ci rfl (by omega)) (hW i (by omega))) ?_
        refine x_imul dX11_rich_34 ?_
        refine x_iadd dX11_rich_35 ?_
        refine x_istore_n dX11_rich_36 (Nat.le_of_ble_eq_true rfl) ?_
        try simp only [xst, xst2, xclr, xset, xwide]
        refine x_iinc (v := (nI (i + 1))) dX11_rich_37 rfl (nI_1 _) (Nat.le_of_ble_eq_true rfl) ?_
        try simp only [xst, xst2, xclr, xset, xwide]
        refine x_goto (tgt := 8) dX11_rich_40 rfl ?_
        exact ih8 (i + 1) _ (by omega) (by rw [ha]; show _ = rcS (I 128) i + I 128 (22 + i) * wc (I 128) i; rw [← wv_in (by rw [cN_of e0 (by omega)]; exact him)]) (by omega)
  exact K8 _ 0 0 (Nat.zero_le _) rfl (Nat.lt_succ_self _)

set_option maxHeartbeats 4000000 in
set_option maxRecDepth 100000 in
theorem r_purseMany {g : xG} {nx : Nat} {sh : Nat → Nat × Nat} {P : Nat → Nat → Option Nat} {I : Nat → Nat → Int32} (hx : xFx sh P) (hR : RI (I 128)) : xMet g Y_M_purseMany 0 0 0 [.ref 127] (nx, sh, P, I) (fun r σ => r = some (.int (puS (I 128) (cN (I 128) 0))) ∧ σ = (nx, sh, P, I)) := by
  refine xMet.of [some (.ref 127), none, none] (by decide +kernel) (Nat.le_of_ble_eq_true rfl) rfl ?_
  obtain ⟨⟨n0, b0, e0⟩, ⟨n1, b1, e1⟩, ⟨n2, b2, e2⟩, ⟨n3, b3, e3⟩, ⟨n4, b4, e4⟩, ⟨n5, b5, e5⟩, ⟨n6, b6, e6⟩, ⟨n7, b7, e7⟩, ⟨n9, b9, e9⟩⟩ := hR.k
  refine x_iconst (v := 0) dX11_purseMany_0 (by decide) ?_
  refine x_istore_n dX11_purseMany_1 (Nat.le_of_ble_eq_true rfl) ?_
  try simp only [xst, xst2, xclr, xset, xwide]
  refine x_iconst (v := 0) dX11_purseMany_2 (by decide) ?_
  refine x_istore_n dX11_purseMany_3 (Nat.le_of_ble_eq_true rfl) ?_
  try simp only [xst, xst2, xclr, xset, xwide]
  have K4 : ∀ (fuel : Nat) (i : Nat) (acc : Int32) (hi : i ≤ n0) (ha : acc = puS (I 128) i), n0 - i < fuel → xX g Y_M_purseMany 0 0 0 (fun r σ => r = some (.int (puS (I 128) (cN (I 128) 0))) ∧ σ = (nx, sh, P, I)) 4 [some (.ref 127), some (.int acc), some (.int (nI i))] [] (nx, sh, P, I) := by
    intro fuel
    induction fuel with
    | zero => intro i acc hi ha hm; exact absurd hm (Nat.not_lt_zero _)
    | succ fuel ih4 =>
      intro i acc hi ha hm
      refine x_iload_n dX11_purseMany_4 rfl ?_
      refine x_aload_n dX11_purseMany_5 rfl ?_
      refine y_getr dX11_purseMany_6 F_M_9 (fxo_127 hx) rfl (fxp_127_1 hx) ?_
      refine x_iconst (v := 0) dX11_purseMany_9 (by decide) ?_
      refine y_iaload dX11_purseMany_10 (fxk_128 hx) (vi (j := 0) rfl (by omega) (by decide)) (rI (j := 0) rfl e0) ?_
      refine x_icmp_ge (tgt := 32) dX11_purseMany_11 rfl (fun c11 => ?_) (fun c11 => ?_)
      · have hie : i = n0 := cge_t (by omega) hi c11
        refine x_iload_n dX11_purseMany_32 rfl ?_
        refine x_ireturn dX11_purseMany_33 rfl nb_int ?_
        subst hie
        exact ⟨by rw [cN_of e0 (by omega), ha], rfl⟩
      · have him : i < n0 := cge_f (by omega) hi c11
        refine x_iload_n dX11_purseMany_14 rfl ?_
        refine x_aload_n dX11_purseMany_15 rfl ?_
        refine y_getr dX11_purseMany_16 F_M_9 (fxo_127 hx) rfl (fxp_127_1 hx) ?_
        refine x_bipush (v := 22) dX11_purseMany_19 (by decide) ?_
        refine x_iload_n dX11_purseMany_21 rfl ?_
        refine x_iadd dX11_purseMany_22 ?_
        refine y_iaload dX11_purseMany_23 (fxk_128 hx) (vi (j := (22 + i)) (nadd (a := 22) (b := i) rfl rfl) (by omega) (by decide)) (rI (j := (22 + i)) (ci (nadd (a := 22) (b := i) rfl rfl) (by omega)) rfl) ?_
        refine x_iadd dX11_purseMany_24 ?_
        refine x_istore_n dX11_purseMany_25 (Nat.le_of_ble_eq_true rfl) ?_
        try simp only [xst, xst2, xclr, xset, xwide]
        refine x_iinc (v := (nI (i + 1))) dX11_purseMany_26 rfl (nI_1 _) (Nat.le_of_ble_eq_true rfl) ?_
        try simp only [xst, xst2, xclr, xset, xwide]
        refine x_goto (tgt := 4) dX11_purseMany_29 rfl ?_
        exact ih4 (i + 1) _ (by omega) (by rw [ha]; rfl) (by omega)
  exact K4 _ 0 0 (Nat.zero_le _) rfl (Nat.lt_succ_self _)

/-- WORTH of coin c by base w -/
def wb (s : Nat → Int32) (c w : Nat) : Int32 := wo s c (nI w) (s (22 + c)) (s 9)

set_option maxHeartbeats 4000000 in
set_option maxRecDepth 100000 in
theorem r_looksForAll {g : xG} {nx : Nat} {sh : Nat → Nat × Nat} {P : Nat → Nat → Option Nat} {I : Nat → Nat → Int32} (hx : xFx sh P) (hR : RI (I 128)) : xMet g Y_M_looksForAll 3 0 0 [.ref 127] (nx, sh, P, I) (fun r σ => ∃ I1 : Nat → Nat → Int32, r = none ∧ σ = (nx, sh, P, I1) ∧ xFrm [130, 131, 133] I I1 ∧ ∀ c w, c < cN (I 128) 0 → 1 ≤ w → w < 10 → I1 133 (10 * c + w) = wb (I 128) c w) := by
  refine xMet.of [some (.ref 127), none, none] (by decide +kernel) (Nat.le_of_ble_eq_true rfl) rfl ?_
  obtain ⟨⟨n0, b0, e0⟩, ⟨n1, b1, e1⟩, ⟨n2, b2, e2⟩, ⟨n3, b3, e3⟩, ⟨n4, b4, e4⟩, ⟨n5, b5, e5⟩, ⟨n6, b6, e6⟩, ⟨n7, b7, e7⟩, ⟨n9, b9, e9⟩⟩ := hR.k
  refine x_iconst (v := 0) dX11_looksForAll_0 (by decide) ?_
  refine x_istore_n dX11_looksForAll_1 (Nat.le_of_ble_eq_true rfl) ?_
  try simp only [xst, xst2, xclr, xset, xwide]
  have K2 : ∀ (fuel : Nat) (i : Nat) (v2 : Option Value) (I1 : Nat → Nat → Int32) (hi : i ≤ n0) (hF : xFrm [130, 131, 133] I I1) (hW : ∀ c w, c < i → 1 ≤ w → w < 10 → I1 133 (10 * c + w) = wb (I 128) c w), n0 - i < fuel → xX g Y_M_looksForAll 3 0 0 (fun r σ => ∃ I1 : Nat → Nat → Int32, r = none ∧ σ = (nx, sh, P, I1) ∧ xFrm [130, 131, 133] I I1 ∧ ∀ c w, c < cN (I 128) 0 → 1 ≤ w → w < 10 → I1 133 (10 * c + w) = wb (I 128) c w) 2 [some (.ref 127), some (.int (nI i)), v2] [] (nx, sh, P, I1) := by
    intro fuel
    induction fuel with
    | zero => intro i v2 I1 hi hF hW hm; exact absurd hm (Nat.not_lt_zero _)
    | succ fuel ih2 =>
      intro i v2 I1 hi hF hW hm
      have e128 : I1 128 = I 128 := hF 128 (by decide)
      refine x_iload_n dX11_looksForAll_2 rfl ?_
      refine x_aload_n dX11_looksForAll_3 rfl ?_
      refine y_getr dX11_looksForAll_4 F_M_9 (fxo_127 hx) rfl (fxp_127_1 hx) ?_
      refine x_iconst (v := 0) dX11_looksForAll_7 (by decide) ?_
      refine y_iaload dX11_looksForAll_8 (fxk_128 hx) (vi (j := 0) rfl (by omega) (by decide)) (rI (j := 0) rfl ((congrFun e128 _).trans e0)) ?_
      refine x_icmp_ge (tgt := 49) dX11_looksForAll_9 rfl (fun c9 => ?_) (fun c9 => ?_)
      · have hie : i = n0 := cge_t (by omega) hi c9
        refine x_return dX11_looksForAll_49 rfl ?_
        subst hie
        exact ⟨I1, rfl, rfl, hF, by rw [cN_of e0 (by omega)]; exact hW⟩
      · have him : i < n0 := cge_f (by omega) hi c9
        refine x_iconst (v := 1) dX11_looksForAll_12 (by decide) ?_
        refine x_istore_n dX11_looksForAll_13 (Nat.le_of_ble_eq_true rfl) ?_
        try simp only [xst, xst2, xclr, xset, xwide]
        have K14 : ∀ (fuel : Nat) (w : Nat) (I2 : Nat → Nat → Int32) (hw1 : 1 ≤ w) (hw : w ≤ 10) (hF2 : xFrm [130, 131, 133] I I2) (hW2 : ∀ c v, c < i ∨ (c = i ∧ v < w) → 1 ≤ v → v < 10 → I2 133 (10 * c + v) = wb (I 128) c v), 10 - w < fuel → xX g Y_M_looksForAll 3 0 0 (fun r σ => ∃ I1 : Nat → Nat → Int32, r = none ∧ σ = (nx, sh, P, I1) ∧ xFrm [130, 131, 133] I I1 ∧ ∀ c w, c < cN (I 128) 0 → 1 ≤ w → w < 10 → I1 133 (10 * c + w) = wb (I 128) c w) 14 [some (.ref 127), some (.int (nI i)), some (.int (nI w))] [] (nx, sh, P, I2) := by
          intro fuel
          induction fuel with
          | zero => intro w I2 hw1 hw hF2 hW2 hm; exact absurd hm (Nat.not_lt_zero _)
          | succ fuel ih14 =>
            intro w I2 hw1 hw hF2 hW2 hm
            have f128 : I2 128 = I 128 := hF2 128 (by decide)
            refine x_iload_n dX11_looksForAll_14 rfl ?_
            refine x_bipush (v := 10) dX11_looksForAll_15 (by decide) ?_
            refine x_icmp_ge (tgt := 43) dX11_looksForAll_17 rfl (fun c17 => ?_) (fun c17 => ?_)
            · have hie : w = 10 := cge_t (by decide) hw c17
              subst hie
              refine x_iinc (v := (nI (i + 1))) dX11_looksForAll_43 rfl (nI_1 _) (Nat.le_of_ble_eq_true rfl) ?_
              try simp only [xst, xst2, xclr, xset, xwide]
              refine x_goto (tgt := 2) dX11_looksForAll_46 rfl ?_
              exact ih2 (i + 1) _ _ (by omega) hF2 (fun c v h h1 h2 => hW2 c v (by omega) h1 h2) (by omega)
            · have him2 : w < 10 := cge_f (by decide) hw c17
              refine x_aload_n dX11_looksForAll_20 rfl ?_
              refine y_getr dX11_looksForAll_21 F_M_28 (fxo_127 hx) rfl (fxp_127_12 hx) ?_
              refine x_bipush (v := 10) dX11_looksForAll_24 (by decide) ?_
              refine x_iload_n dX11_looksForAll_26 rfl ?_
              refine x_imul dX11_looksForAll_27 ?_
              refine x_iload_n dX11_looksForAll_28 rfl ?_
              refine x_iadd dX11_looksForAll_29 ?_
              refine x_aload_n dX11_looksForAll_30 rfl ?_
              refine x_iload_n dX11_looksForAll_31 rfl ?_
              refine x_iload_n dX11_looksForAll_32 rfl ?_
              refine x_callV (k2 := 0) (n2 := 0) dX11_looksForAll_33 LV_M_158 (r_worthOf (I := I2) (c := i) hx (by omega) (by rw [f128]; exact hR.lw) (by rw [f128]; exact hR.dy) (by rw [f128]; exact hR.kd (by rw [cN_of e0 (by omega)]; exact him))) rfl rfl (fxo_127 hx) rfl (Nat.le_of_ble_eq_true rfl) (Nat.le_of_ble_eq_true rfl) (Nat.le_of_ble_eq_true rfl) (Nat.le_of_ble_eq_true rfl) ?_
              rintro _ _ ⟨I3, rfl, rfl, hG⟩
              have hF3 : xFrm [130, 131, 133] I I3 := hF2.tr hG
              have hwi : wo (I2 128) i (nI w) (I2 128 (22 + i)) (I2 128 9) = wb (I 128) i w := by rw [f128]; rfl
              refine y_iastore dX11_looksForAll_36 (fxk_133 hx) (vi (j := ((10 * i) + w)) (nadd (a := (10 * i)) (b := w) (nmul (a := 10) (b := i) rfl rfl) rfl) (by omega) (by decide)) (ci (j := ((10 * i) + w)) (nadd (a := (10 * i)) (b := w) (nmul (a := 10) (b := i) rfl rfl) rfl) (by omega)) ?_
              refine x_iinc (v := (nI (w + 1))) dX11_looksForAll_37 rfl (nI_1 _) (Nat.le_of_ble_eq_true rfl) ?_
              try simp only [xst, xst2, xclr, xset, xwide]
              refine x_goto (tgt := 14) dX11_looksForAll_40 rfl ?_
              exact ih14 (w + 1) _ (by omega) (by omega) (hF3.xup) (fun c v h h1 h2 => by
                rw [xup_at]
                by_cases hz : 10 * c + v = 10 * i + w
                · rw [if_pos ⟨rfl, hz⟩]
                  have h3 : c = i ∧ v = w := by omega
                  rw [h3.1, h3.2]; exact hwi
                · rw [if_neg (fun z => hz z.2)]
                  exact (congrFun (hG 133 (by decide)) _).trans (hW2 c v (by omega) h1 h2)) (by omega)
        exact K14 _ 1 I1 (by decide) (by decide) hF (fun c v h h1 h2 => hW c v (by omega) h1 h2) (Nat.lt_succ_self _)
  exact K2 _ 0 none I (Nat.zero_le _) xFrm.rf (fun c w h => absurd h (Nat.not_lt_zero c)) (Nat.lt_succ_self _)

theorem lt_pred {i : Int32} {n : Nat} (hn : n < 2 ^ 31) (h0 : 0 ≤ i) (h : i ≤ nI n - 1) : 0 ≤ i ∧ i < nI n := by
  cases n with
  | zero => exact absurd (Int32.le_trans h0 h) (by decide)
  | succ n =>
    rw [nI_pred] at h
    have h2 := nI_lt (Nat.lt_succ_self n) hn
    exact ⟨h0, by grind⟩
def a_of (s : Nat → Int32) (c w : Int32) : Int32 := if (0 ≤ c ∧ c < s 0) ∧ ((0 ≤ w ∧ w ≤ 4) ∨ (11 ≤ w ∧ w ≤ 19)) then (if w < 4 then s (10 + 4 * w.toNatClampNeg + c.toNatClampNeg) else if w = 4 then wc s c.toNatClampNeg else wo s c.toNatClampNeg (w - 10) (s (22 + c.toNatClampNeg)) (s 9)) else -1
def a_told (s : Nat → Int32) (w : Int32) : Int32 := if 0 ≤ w - 10 ∧ w - 10 ≤ s 1 - 1 then s (42 + (w - 10).toNatClampNeg) else if w = 0 then s 9 else if w = 1 then tpN s else if w = 2 then tlO s 222 0 else if w = 3 then rcS s (cN s 0) else -1

set_option maxHeartbeats 4000000 in
set_option maxRecDepth 100000 in
theorem r_of {g : xG} {nx : Nat} {sh : Nat → Nat × Nat} {P : Nat → Nat → Option Nat} {I : Nat → Nat → Int32} (hx : xFx sh P) {c what : Int32} (hR : RI (I 128)) : xMet g Y_M_of 3 0 0 [.ref 127, .int c, .int what] (nx, sh, P, I) (fun r σ => ∃ I1 : Nat → Nat → Int32, r = some (.int (a_of (I 128) c what)) ∧ σ = (nx, sh, P, I1) ∧ xFrm [130, 131] I I1) := by
  refine xMet.of [some (.ref 127), some (.int c), some (.int what)] (by decide +kernel) (Nat.le_of_ble_eq_true rfl) rfl ?_
  obtain ⟨⟨n0, b0, e0⟩, ⟨n1, b1, e1⟩, ⟨n2, b2, e2⟩, ⟨n3, b3, e3⟩, ⟨n4, b4, e4⟩, ⟨n5, b5, e5⟩, ⟨n6, b6, e6⟩, ⟨n7, b7, e7⟩, ⟨n9, b9, e9⟩⟩ := hR.k
  refine x_aload_n dX11_of_0 rfl ?_
  refine x_iload_n dX11_of_1 rfl ?_
  refine x_callV (k2 := 0) (n2 := 0) dX11_of_2 LV_M_161 (r_isCoin hx hR.nn0) rfl rfl (fxo_127 hx) rfl (Nat.le_of_ble_eq_true rfl) (Nat.le_of_ble_eq_true rfl) (Nat.le_of_ble_eq_true rfl) (Nat.le_of_ble_eq_true rfl) ?_
  rintro _ _ ⟨rfl, rfl⟩
  refine x_if_eq (tgt := 28) dX11_of_5 rfl (fun c5 => ?_) (fun c5 => ?_)
  · refine x_iconst (v := (-1)) dX11_of_28 (by decide) ?_
    refine x_ireturn dX11_of_29 rfl nb_int ?_
    exact ⟨I, by unfold a_of; rw [if_neg (fun h => by grind)], rfl, xFrm.rf⟩
  · refine x_iload_n dX11_of_8 rfl ?_
    refine x_iconst (v := 0) dX11_of_9 (by decide) ?_
    refine x_iconst (v := 4) dX11_of_10 (by decide) ?_
    refine x_callS (k2 := 0) (n2 := 0) dX11_of_11 LS_M_65 r_in rfl rfl (Nat.le_of_ble_eq_true rfl) (Nat.le_of_ble_eq_true rfl) (Nat.le_of_ble_eq_true rfl) (Nat.le_of_ble_eq_true rfl) ?_
    rintro _ _ ⟨rfl, rfl⟩
    refine x_if_ne (tgt := 30) dX11_of_14 rfl (fun c14 => ?_) (fun c14 => ?_)
    · obtain ⟨q, hq, rfl⟩ := i_2 (n := n0) (by omega) (by rw [← e0]; exact b_t c5)
      refine x_iload_n dX11_of_30 rfl ?_
      refine x_iconst (v := 4) dX11_of_31 (by decide) ?_
      refine x_icmp_ge (tgt := 51) dX11_of_32 rfl (fun c32 => ?_) (fun c32 => ?_)
      · refine x_aload_n dX11_of_51 rfl ?_
        refine x_iload_n dX11_of_52 rfl ?_
        refine x_iload_n dX11_of_53 rfl ?_
        refine x_iconst (v := 4) dX11_of_54 (by decide) ?_
        refine x_icmp_ne (tgt := 70) dX11_of_55 rfl (fun c55 => ?_) (fun c55 => ?_)
        · refine x_iload_n dX11_of_70 rfl ?_
          refine x_bipush (v := 10) dX11_of_71 (by decide) ?_
          refine x_isub dX11_of_73 ?_
          refine x_callV (k2 := 0) (n2 := 0) dX11_of_74 LV_M_158 (r_worthOf (c := q) hx (by omega) hR.lw hR.dy (hR.kd (by rw [cN_of e0 (by omega)]; exact hq))) rfl rfl (fxo_127 hx) rfl (Nat.le_of_ble_eq_true rfl) (Nat.le_of_ble_eq_true rfl) (Nat.le_of_ble_eq_true rfl) (Nat.le_of_ble_eq_true rfl) ?_
          rintro _ _ ⟨I1, rfl, rfl, hF⟩
          refine x_ireturn dX11_of_77 rfl nb_int ?_
          first | exact ⟨I, by unfold a_of; rw [if_pos ⟨b_t c5, by first | exact Or.inl (b_t c14) | exact Or.inr (b_t c25)⟩, if_pos (Int32.not_le.mp c32), nI_clamp (by omega), nI_clamp (by omega)], rfl, xFrm.rf⟩ | exact ⟨_, by unfold a_of; rw [if_pos ⟨b_t c5, by first | exact Or.inl (b_t c14) | exact Or.inr (b_t c25)⟩, if_neg (Int32.not_lt.mpr c32), if_pos c55, nI_clamp (by omega)]; rfl, rfl, hF⟩ | exact ⟨_, by unfold a_of; rw [if_pos ⟨b_t c5, by first | exact Or.inl (b_t c14) | exact Or.inr (b_t c25)⟩, if_neg (Int32.not_lt.mpr c32), if_neg c55, nI_clamp (by omega)], rfl, hF⟩
        · refine x_aload_n dX11_of_58 rfl ?_
          refine y_getr dX11_of_59 F_M_9 (fxo_127 hx) rfl (fxp_127_1 hx) ?_
          refine x_bipush (v := 18) dX11_of_62 (by decide) ?_
          refine x_iload_n dX11_of_64 rfl ?_
          refine x_iadd dX11_of_65 ?_
          refine y_iaload dX11_of_66 (fxk_128 hx) (vi (j := (18 + q)) (nadd (a := 18) (b := q) rfl rfl) (by omega) (by decide)) (rI (j := (18 + q)) (ci (nadd (a := 18) (b := q) rfl rfl) (by omega)) rfl) ?_
          refine x_goto (tgt := 74) dX11_of_67 rfl ?_
          refine x_callV (k2 := 0) (n2 := 0) dX11_of_74 LV_M_158 (r_worthOf (c := q) hx (by omega) hR.lw hR.dy (hR.kd (by rw [cN_of e0 (by omega)]; exact hq))) rfl rfl (fxo_127 hx) rfl (Nat.le_of_ble_eq_true rfl) (Nat.le_of_ble_eq_true rfl) (Nat.le_of_ble_eq_true rfl) (Nat.le_of_ble_eq_true rfl) ?_
          rintro _ _ ⟨I1, rfl, rfl, hF⟩
          refine x_ireturn dX11_of_77 rfl nb_int ?_
          first | exact ⟨I, by unfold a_of; rw [if_pos ⟨b_t c5, by first | exact Or.inl (b_t c14) | exact Or.inr (b_t c25)⟩, if_pos (Int32.not_le.mp c32), nI_clamp (by omega), nI_clamp (by omega)], rfl, xFrm.rf⟩ | exact ⟨_, by unfold a_of; rw [if_pos ⟨b_t c5, by first | exact Or.inl (b_t c14) | exact Or.inr (b_t c25)⟩, if_neg (Int32.not_lt.mpr c32), if_pos c55, nI_clamp (by omega)]; rfl, rfl, hF⟩ | exact ⟨_, by unfold a_of; rw [if_pos ⟨b_t c5, by first | exact Or.inl (b_t c14) | exact Or.inr (b_t c25)⟩, if_neg (Int32.not_lt.mpr c32), if_neg c55, nI_clamp (by omega)], rfl, hF⟩
      · obtain ⟨z, hz, rfl⟩ : ∃ z, z < 4 ∧ what = nI z := by
          obtain ⟨z, hz, e⟩ := i_2 (i := what) (n := 4) (by decide) ⟨by first | exact (b_t c14).1 | (have := b_t c25; grind), Int32.not_le.mp c32⟩
          exact ⟨z, hz, e⟩
        refine x_aload_n dX11_of_35 rfl ?_
        refine y_getr dX11_of_36 F_M_9 (fxo_127 hx) rfl (fxp_127_1 hx) ?_
        refine x_bipush (v := 10) dX11_of_39 (by decide) ?_
        refine x_iconst (v := 4) dX11_of_41 (by decide) ?_
        refine x_iload_n dX11_of_42 rfl ?_
        refine x_imul dX11_of_43 ?_
        refine x_iadd dX11_of_44 ?_
        refine x_iload_n dX11_of_45 rfl ?_
        refine x_iadd dX11_of_46 ?_
        refine y_iaload dX11_of_47 (fxk_128 hx) (vi (j := ((10 + (4 * z)) + q)) (nadd (a := (10 + (4 * z))) (b := q) (nadd (a := 10) (b := (4 * z)) rfl (nmul (a := 4) (b := z) rfl rfl)) rfl) (by omega) (by decide)) (rI (j := ((10 + (4 * z)) + q)) (ci (nadd (a := (10 + (4 * z))) (b := q) (nadd (a := 10) (b := (4 * z)) rfl (nmul (a := 4) (b := z) rfl rfl)) rfl) (by omega)) rfl) ?_
        refine x_goto (tgt := 77) dX11_of_48 rfl ?_
        refine x_ireturn dX11_of_77 rfl nb_int ?_
        first | exact ⟨I, by unfold a_of; rw [if_pos ⟨b_t c5, by first | exact Or.inl (b_t c14) | exact Or.inr (b_t c25)⟩, if_pos (Int32.not_le.mp c32), nI_clamp (by omega), nI_clamp (by omega)], rfl, xFrm.rf⟩ | exact ⟨_, by unfold a_of; rw [if_pos ⟨b_t c5, by first | exact Or.inl (b_t c14) | exact Or.inr (b_t c25)⟩, if_neg (Int32.not_lt.mpr c32), if_pos c55, nI_clamp (by omega)]; rfl, rfl, hF⟩ | exact ⟨_, by unfold a_of; rw [if_pos ⟨b_t c5, by first | exact Or.inl (b_t c14) | exact Or.inr (b_t c25)⟩, if_neg (Int32.not_lt.mpr c32), if_neg c55, nI_clamp (by omega)], rfl, hF⟩
    · refine x_iload_n dX11_of_17 rfl ?_
      refine x_bipush (v := 11) dX11_of_18 (by decide) ?_
      refine x_bipush (v := 19) dX11_of_20 (by decide) ?_
      refine x_callS (k2 := 0) (n2 := 0) dX11_of_22 LS_M_65 r_in rfl rfl (Nat.le_of_ble_eq_true rfl) (Nat.le_of_ble_eq_true rfl) (Nat.le_of_ble_eq_true rfl) (Nat.le_of_ble_eq_true rfl) ?_
      rintro _ _ ⟨rfl, rfl⟩
      refine x_if_ne (tgt := 30) dX11_of_25 rfl (fun c25 => ?_) (fun c25 => ?_)
      · obtain ⟨q, hq, rfl⟩ := i_2 (n := n0) (by omega) (by rw [← e0]; exact b_t c5)
        refine x_iload_n dX11_of_30 rfl ?_
        refine x_iconst (v := 4) dX11_of_31 (by decide) ?_
        refine x_icmp_ge (tgt := 51) dX11_of_32 rfl (fun c32 => ?_) (fun c32 => ?_)
        · refine x_aload_n dX11_of_51 rfl ?_
          refine x_iload_n dX11_of_52 rfl ?_
          refine x_iload_n dX11_of_53 rfl ?_
          refine x_iconst (v := 4) dX11_of_54 (by decide) ?_
          refine x_icmp_ne (tgt := 70) dX11_of_55 rfl (fun c55 => ?_) (fun c55 => ?_)
          · refine x_iload_n dX11_of_70 rfl ?_
            refine x_bipush (v := 10) dX11_of_71 (by decide) ?_
            refine x_isub dX11_of_73 ?_
            refine x_callV (k2 := 0) (n2 := 0) dX11_of_74 LV_M_158 (r_worthOf (c := q) hx (by omega) hR.lw hR.dy (hR.kd (by rw [cN_of e0 (by omega)]; exact hq))) rfl rfl (fxo_127 hx) rfl (Nat.le_of_ble_eq_true rfl) (Nat.le_of_ble_eq_true rfl) (Nat.le_of_ble_eq_true rfl) (Nat.le_of_ble_eq_true rfl) ?_
            rintro _ _ ⟨I1, rfl, rfl, hF⟩
            refine x_ireturn dX11_of_77 rfl nb_int ?_
            first | exact ⟨I, by unfold a_of; rw [if_pos ⟨b_t c5, by first | exact Or.inl (b_t c14) | exact Or.inr (b_t c25)⟩, if_pos (Int32.not_le.mp c32), nI_clamp (by omega), nI_clamp (by omega)], rfl, xFrm.rf⟩ | exact ⟨_, by unfold a_of; rw [if_pos ⟨b_t c5, by first | exact Or.inl (b_t c14) | exact Or.inr (b_t c25)⟩, if_neg (Int32.not_lt.mpr c32), if_pos c55, nI_clamp (by omega)]; rfl, rfl, hF⟩ | exact ⟨_, by unfold a_of; rw [if_pos ⟨b_t c5, by first | exact Or.inl (b_t c14) | exact Or.inr (b_t c25)⟩, if_neg (Int32.not_lt.mpr c32), if_neg c55, nI_clamp (by omega)], rfl, hF⟩
          · refine x_aload_n dX11_of_58 rfl ?_
            refine y_getr dX11_of_59 F_M_9 (fxo_127 hx) rfl (fxp_127_1 hx) ?_
            refine x_bipush (v := 18) dX11_of_62 (by decide) ?_
            refine x_iload_n dX11_of_64 rfl ?_
            refine x_iadd dX11_of_65 ?_
            refine y_iaload dX11_of_66 (fxk_128 hx) (vi (j := (18 + q)) (nadd (a := 18) (b := q) rfl rfl) (by omega) (by decide)) (rI (j := (18 + q)) (ci (nadd (a := 18) (b := q) rfl rfl) (by omega)) rfl) ?_
            refine x_goto (tgt := 74) dX11_of_67 rfl ?_
            refine x_callV (k2 := 0) (n2 := 0) dX11_of_74 LV_M_158 (r_worthOf (c := q) hx (by omega) hR.lw hR.dy (hR.kd (by rw [cN_of e0 (by omega)]; exact hq))) rfl rfl (fxo_127 hx) rfl (Nat.le_of_ble_eq_true rfl) (Nat.le_of_ble_eq_true rfl) (Nat.le_of_ble_eq_true rfl) (Nat.le_of_ble_eq_true rfl) ?_
            rintro _ _ ⟨I1, rfl, rfl, hF⟩
            refine x_ireturn dX11_of_77 rfl nb_int ?_
            first | exact ⟨I, by unfold a_of; rw [if_pos ⟨b_t c5, by first | exact Or.inl (b_t c14) | exact Or.inr (b_t c25)⟩, if_pos (Int32.not_le.mp c32), nI_clamp (by omega), nI_clamp (by omega)], rfl, xFrm.rf⟩ | exact ⟨_, by unfold a_of; rw [if_pos ⟨b_t c5, by first | exact Or.inl (b_t c14) | exact Or.inr (b_t c25)⟩, if_neg (Int32.not_lt.mpr c32), if_pos c55, nI_clamp (by omega)]; rfl, rfl, hF⟩ | exact ⟨_, by unfold a_of; rw [if_pos ⟨b_t c5, by first | exact Or.inl (b_t c14) | exact Or.inr (b_t c25)⟩, if_neg (Int32.not_lt.mpr c32), if_neg c55, nI_clamp (by omega)], rfl, hF⟩
        · obtain ⟨z, hz, rfl⟩ : ∃ z, z < 4 ∧ what = nI z := by
            obtain ⟨z, hz, e⟩ := i_2 (i := what) (n := 4) (by decide) ⟨by first | exact (b_t c14).1 | (have := b_t c25; grind), Int32.not_le.mp c32⟩
            exact ⟨z, hz, e⟩
          refine x_aload_n dX11_of_35 rfl ?_
          refine y_getr dX11_of_36 F_M_9 (fxo_127 hx) rfl (fxp_127_1 hx) ?_
          refine x_bipush (v := 10) dX11_of_39 (by decide) ?_
          refine x_iconst (v := 4) dX11_of_41 (by decide) ?_
          refine x_iload_n dX11_of_42 rfl ?_
          refine x_imul dX11_of_43 ?_
          refine x_iadd dX11_of_44 ?_
          refine x_iload_n dX11_of_45 rfl ?_
          refine x_iadd dX11_of_46 ?_
          refine y_iaload dX11_of_47 (fxk_128 hx) (vi (j := ((10 + (4 * z)) + q)) (nadd (a := (10 + (4 * z))) (b := q) (nadd (a := 10) (b := (4 * z)) rfl (nmul (a := 4) (b := z) rfl rfl)) rfl) (by omega) (by decide)) (rI (j := ((10 + (4 * z)) + q)) (ci (nadd (a := (10 + (4 * z))) (b := q) (nadd (a := 10) (b := (4 * z)) rfl (nmul (a := 4) (b := z) rfl rfl)) rfl) (by omega)) rfl) ?_
          refine x_goto (tgt := 77) dX11_of_48 rfl ?_
          refine x_ireturn dX11_of_77 rfl nb_int ?_
          first | exact ⟨I, by unfold a_of; rw [if_pos ⟨b_t c5, by first | exact Or.inl (b_t c14) | exact Or.inr (b_t c25)⟩, if_pos (Int32.not_le.mp c32), nI_clamp (by omega), nI_clamp (by omega)], rfl, xFrm.rf⟩ | exact ⟨_, by unfold a_of; rw [if_pos ⟨b_t c5, by first | exact Or.inl (b_t c14) | exact Or.inr (b_t c25)⟩, if_neg (Int32.not_lt.mpr c32), if_pos c55, nI_clamp (by omega)]; rfl, rfl, hF⟩ | exact ⟨_, by unfold a_of; rw [if_pos ⟨b_t c5, by first | exact Or.inl (b_t c14) | exact Or.inr (b_t c25)⟩, if_neg (Int32.not_lt.mpr c32), if_neg c55, nI_clamp (by omega)], rfl, hF⟩
      · refine x_iconst (v := (-1)) dX11_of_28 (by decide) ?_
        refine x_ireturn dX11_of_29 rfl nb_int ?_
        exact ⟨I, by unfold a_of; rw [if_neg (fun h => by grind)], rfl, xFrm.rf⟩

set_option maxHeartbeats 4000000 in
set_option maxRecDepth 100000 in
theorem r_told {g : xG} {nx : Nat} {sh : Nat → Nat × Nat} {P : Nat → Nat → Option Nat} {I : Nat → Nat → Int32} (hx : xFx sh P) {what : Int32} (hR : RI (I 128)) : xMet g Y_M_told 5 0 0 [.ref 127, .int what] (nx, sh, P, I) (fun r σ => ∃ I1 : Nat → Nat → Int32, r = some (.int (a_told (I 128) what)) ∧ σ = (nx, sh, P, I1) ∧ xFrm [130, 131, 132] I I1) := by
  refine xMet.of [some (.ref 127), some (.int what)] (by decide +kernel) (Nat.le_of_ble_eq_true rfl) rfl ?_
  obtain ⟨⟨n0, b0, e0⟩, ⟨n1, b1, e1⟩, ⟨n2, b2, e2⟩, ⟨n3, b3, e3⟩, ⟨n4, b4, e4⟩, ⟨n5, b5, e5⟩, ⟨n6, b6, e6⟩, ⟨n7, b7, e7⟩, ⟨n9, b9, e9⟩⟩ := hR.k
  refine x_iload_n dX11_told_0 rfl ?_
  refine x_bipush (v := 10) dX11_told_1 (by decide) ?_
  refine x_isub dX11_told_3 ?_
  refine x_iconst (v := 0) dX11_told_4 (by decide) ?_
  refine x_aload_n dX11_told_5 rfl ?_
  refine y_getr dX11_told_6 F_M_9 (fxo_127 hx) rfl (fxp_127_1 hx) ?_
  refine x_iconst (v := 1) dX11_told_9 (by decide) ?_
  refine y_iaload dX11_told_10 (fxk_128 hx) (vi (j := 1) rfl (by omega) (by decide)) (rI (j := 1) rfl e1) ?_
  refine x_iconst (v := 1) dX11_told_11 (by decide) ?_
  refine x_isub dX11_told_12 ?_
  refine x_callS (k2 := 0) (n2 := 0) dX11_told_13 LS_M_65 r_in rfl rfl (Nat.le_of_ble_eq_true rfl) (Nat.le_of_ble_eq_true rfl) (Nat.le_of_ble_eq_true rfl) (Nat.le_of_ble_eq_true rfl) ?_
  rintro _ _ ⟨rfl, rfl⟩
  refine x_if_eq (tgt := 32) dX11_told_16 rfl (fun c16 => ?_) (fun c16 => ?_)
  · refine x_iload_n dX11_told_32 rfl ?_
    refine x_if_ne (tgt := 46) dX11_told_33 rfl (fun c33 => ?_) (fun c33 => ?_)
    · refine x_iload_n dX11_told_46 rfl ?_
      refine x_iconst (v := 1) dX11_told_47 (by decide) ?_
      refine x_icmp_ne (tgt := 58) dX11_told_48 rfl (fun c48 => ?_) (fun c48 => ?_)
      · refine x_iload_n dX11_told_58 rfl ?_
        refine x_iconst (v := 2) dX11_told_59 (by decide) ?_
        refine x_icmp_ne (tgt := 70) dX11_told_60 rfl (fun c60 => ?_) (fun c60 => ?_)
        · refine x_iload_n dX11_told_70 rfl ?_
          refine x_iconst (v := 3) dX11_told_71 (by decide) ?_
          refine x_icmp_ne (tgt := 82) dX11_told_72 rfl (fun c72 => ?_) (fun c72 => ?_)
          · refine x_iconst (v := (-1)) dX11_told_82 (by decide) ?_
            refine x_ireturn dX11_told_83 rfl nb_int ?_
            have hn : ¬ (0 ≤ what - 10 ∧ what - 10 ≤ I 128 1 - 1) := by rw [e1]; exact b_f c16
            first | exact ⟨I, by unfold a_told; rw [if_neg hn, if_pos c33], rfl, xFrm.rf⟩ | exact ⟨I, by unfold a_told; rw [if_neg hn, if_neg c33, if_pos c48], rfl, xFrm.rf⟩ | exact ⟨I, by unfold a_told; rw [if_neg hn, if_neg c33, if_neg c48, if_pos c60], rfl, xFrm.rf⟩ | exact ⟨_, by unfold a_told; rw [if_neg hn, if_neg c33, if_neg c48, if_neg c60, if_pos c72], rfl, hF⟩ | exact ⟨I, by unfold a_told; rw [if_neg hn, if_neg c33, if_neg c48, if_neg c60, if_neg c72], rfl, xFrm.rf⟩
          · refine x_aload_n dX11_told_75 rfl ?_
            refine x_callV (k2 := 0) (n2 := 0) dX11_told_76 LV_M_174 (r_rich hx hR) rfl rfl (fxo_127 hx) rfl (Nat.le_of_ble_eq_true rfl) (Nat.le_of_ble_eq_true rfl) (Nat.le_of_ble_eq_true rfl) (Nat.le_of_ble_eq_true rfl) ?_
            rintro _ _ ⟨I1, rfl, rfl, hF⟩
            refine x_goto (tgt := 83) dX11_told_79 rfl ?_
            refine x_ireturn dX11_told_83 rfl nb_int ?_
            have hn : ¬ (0 ≤ what - 10 ∧ what - 10 ≤ I 128 1 - 1) := by rw [e1]; exact b_f c16
            first | exact ⟨I, by unfold a_told; rw [if_neg hn, if_pos c33], rfl, xFrm.rf⟩ | exact ⟨I, by unfold a_told; rw [if_neg hn, if_neg c33, if_pos c48], rfl, xFrm.rf⟩ | exact ⟨I, by unfold a_told; rw [if_neg hn, if_neg c33, if_neg c48, if_pos c60], rfl, xFrm.rf⟩ | exact ⟨_, by unfold a_told; rw [if_neg hn, if_neg c33, if_neg c48, if_neg c60, if_pos c72], rfl, hF⟩ | exact ⟨I, by unfold a_told; rw [if_neg hn, if_neg c33, if_neg c48, if_neg c60, if_neg c72], rfl, xFrm.rf⟩
        · refine x_aload_n dX11_told_63 rfl ?_
          refine x_callV (k2 := 0) (n2 := 0) dX11_told_64 LV_M_171 (r_cheatNow hx hR.hd) rfl rfl (fxo_127 hx) rfl (Nat.le_of_ble_eq_true rfl) (Nat.le_of_ble_eq_true rfl) (Nat.le_of_ble_eq_true rfl) (Nat.le_of_ble_eq_true rfl) ?_
          rintro _ _ ⟨rfl, rfl⟩
          refine x_goto (tgt := 83) dX11_told_67 rfl ?_
          refine x_ireturn dX11_told_83 rfl nb_int ?_
          have hn : ¬ (0 ≤ what - 10 ∧ what - 10 ≤ I 128 1 - 1) := by rw [e1]; exact b_f c16
          first | exact ⟨I, by unfold a_told; rw [if_neg hn, if_pos c33], rfl, xFrm.rf⟩ | exact ⟨I, by unfold a_told; rw [if_neg hn, if_neg c33, if_pos c48], rfl, xFrm.rf⟩ | exact ⟨I, by unfold a_told; rw [if_neg hn, if_neg c33, if_neg c48, if_pos c60], rfl, xFrm.rf⟩ | exact ⟨_, by unfold a_told; rw [if_neg hn, if_neg c33, if_neg c48, if_neg c60, if_pos c72], rfl, hF⟩ | exact ⟨I, by unfold a_told; rw [if_neg hn, if_neg c33, if_neg c48, if_neg c60, if_neg c72], rfl, xFrm.rf⟩
      · refine x_aload_n dX11_told_51 rfl ?_
        refine x_callV (k2 := 0) (n2 := 0) dX11_told_52 LV_M_168 (r_topNow hx hR.hd) rfl rfl (fxo_127 hx) rfl (Nat.le_of_ble_eq_true rfl) (Nat.le_of_ble_eq_true rfl) (Nat.le_of_ble_eq_true rfl) (Nat.le_of_ble_eq_true rfl) ?_
        rintro _ _ ⟨rfl, rfl⟩
        refine x_goto (tgt := 83) dX11_told_55 rfl ?_
        refine x_ireturn dX11_told_83 rfl nb_int ?_
        have hn : ¬ (0 ≤ what - 10 ∧ what - 10 ≤ I 128 1 - 1) := by rw [e1]; exact b_f c16
        first | exact ⟨I, by unfold a_told; rw [if_neg hn, if_pos c33], rfl, xFrm.rf⟩ | exact ⟨I, by unfold a_told; rw [if_neg hn, if_neg c33, if_pos c48], rfl, xFrm.rf⟩ | exact ⟨I, by unfold a_told; rw [if_neg hn, if_neg c33, if_neg c48, if_pos c60], rfl, xFrm.rf⟩ | exact ⟨_, by unfold a_told; rw [if_neg hn, if_neg c33, if_neg c48, if_neg c60, if_pos c72], rfl, hF⟩ | exact ⟨I, by unfold a_told; rw [if_neg hn, if_neg c33, if_neg c48, if_neg c60, if_neg c72], rfl, xFrm.rf⟩
    · refine x_aload_n dX11_told_36 rfl ?_
      refine y_getr dX11_told_37 F_M_9 (fxo_127 hx) rfl (fxp_127_1 hx) ?_
      refine x_bipush (v := 9) dX11_told_40 (by decide) ?_
      refine y_iaload dX11_told_42 (fxk_128 hx) (vi (j := 9) rfl (by omega) (by decide)) (rI (j := 9) (ci rfl (by omega)) rfl) ?_
      refine x_goto (tgt := 83) dX11_told_43 rfl ?_
      refine x_ireturn dX11_told_83 rfl nb_int ?_
      have hn : ¬ (0 ≤ what - 10 ∧ what - 10 ≤ I 128 1 - 1) := by rw [e1]; exact b_f c16
      first | exact ⟨I, by unfold a_told; rw [if_neg hn, if_pos c33], rfl, xFrm.rf⟩ | exact ⟨I, by unfold a_told; rw [if_neg hn, if_neg c33, if_pos c48], rfl, xFrm.rf⟩ | exact ⟨I, by unfold a_told; rw [if_neg hn, if_neg c33, if_neg c48, if_pos c60], rfl, xFrm.rf⟩ | exact ⟨_, by unfold a_told; rw [if_neg hn, if_neg c33, if_neg c48, if_neg c60, if_pos c72], rfl, hF⟩ | exact ⟨I, by unfold a_told; rw [if_neg hn, if_neg c33, if_neg c48, if_neg c60, if_neg c72], rfl, xFrm.rf⟩
  · refine x_aload_n dX11_told_19 rfl ?_
    refine y_getr dX11_told_20 F_M_9 (fxo_127 hx) rfl (fxp_127_1 hx) ?_
    refine x_bipush (v := 42) dX11_told_23 (by decide) ?_
    refine x_iload_n dX11_told_25 rfl ?_
    refine x_iadd dX11_told_26 ?_
    refine x_bipush (v := 10) dX11_told_27 (by decide) ?_
    refine x_isub dX11_told_29 ?_
    obtain ⟨z, hz, e⟩ := i_2 (i := what - 10) (n := n1) (by omega) (by have h9 := b_t c16; exact lt_pred (by omega) h9.1 h9.2)
    have e42 : (42 : Int32) + what - 10 = nI (42 + z) := by rw [← nadd (x := 42) (y := what - 10) rfl e]; grind
    refine y_iaload dX11_told_30 (fxk_128 hx) (vi e42 (by omega) (by decide)) (rI (ci e42 (by omega)) rfl) ?_
    refine x_ireturn dX11_told_31 rfl nb_int ?_
    exact ⟨I, by unfold a_told; rw [e1, if_pos (b_t c16), e, nI_clamp (by omega)], rfl, xFrm.rf⟩

def a_count (s : Nat → Int32) (ran w : Int32) : Int32 := if w = 8 then ran else if 0 ≤ w ∧ w ≤ 7 then s w.toNatClampNeg else -1
/-- a pile of slates by b: are the first n of them right -/
def slR (s : Nat → Int32) (b : Int32) : Nat → Prop
  | 0 => True
  | n + 1 => slR s b n ∧ s (77 + n) < b ∧ s (83 + n) < b ∧ s (89 + n) = b * s (77 + n) + s (83 + n)
def slD (s : Nat → Int32) (b : Int32) : (n : Nat) → Decidable (slR s b n)
  | 0 => isTrue trivial
  | n + 1 => @instDecidableAnd _ _ (slD s b n) inferInstance
def slB (s : Nat → Int32) (b : Int32) (n : Nat) : Bool := @decide _ (slD s b n)
theorem slB_s {s : Nat → Int32} {b : Int32} {n : Nat} : slB s b (n + 1) = true ↔ slB s b n = true ∧ s (77 + n) < b ∧ s (83 + n) < b ∧ s (89 + n) = b * s (77 + n) + s (83 + n) := by
  unfold slB
  rw [@decide_eq_true_iff _ (slD s b (n + 1)), @decide_eq_true_iff _ (slD s b n)]
  exact Iff.rfl
theorem bv_t {c : Prop} {b : Bool} {v : Int32} [Decidable c] (h : b = true ↔ c) (hc : c) (hv : v = 1) : v = if b = true then 1 else 0 := by rw [hv, if_pos (h.mpr hc)]
theorem bv_f {c : Prop} {b : Bool} {v : Int32} [Decidable c] (h : b = true ↔ c) (hc : ¬ c) (hv : v = 0) : v = if b = true then 1 else 0 := by rw [hv, if_neg (fun z => hc (h.mp z))]

set_option maxHeartbeats 4000000 in
set_option maxRecDepth 100000 in
theorem r_count {g : xG} {nx : Nat} {sh : Nat → Nat × Nat} {P : Nat → Nat → Option Nat} {I : Nat → Nat → Int32} (hx : xFx sh P) {what : Int32} : xMet g Y_M_count 1 0 0 [.ref 127, .int what] (nx, sh, P, I) (fun r σ => r = some (.int (a_count (I 128) (I 127 30) what)) ∧ σ = (nx, sh, P, I)) := by
  refine xMet.of [some (.ref 127), some (.int what)] (by decide +kernel) (Nat.le_of_ble_eq_true rfl) rfl ?_
  refine x_iload_n dX11_count_0 rfl ?_
  refine x_bipush (v := 8) dX11_count_1 (by decide) ?_
  refine x_icmp_ne (tgt := 13) dX11_count_3 rfl (fun c3 => ?_) (fun c3 => ?_)
  · refine x_iload_n dX11_count_13 rfl ?_
    refine x_iconst (v := 0) dX11_count_14 (by decide) ?_
    refine x_bipush (v := 7) dX11_count_15 (by decide) ?_
    refine x_callS (k2 := 0) (n2 := 0) dX11_count_17 LS_M_65 r_in rfl rfl (Nat.le_of_ble_eq_true rfl) (Nat.le_of_ble_eq_true rfl) (Nat.le_of_ble_eq_true rfl) (Nat.le_of_ble_eq_true rfl) ?_
    rintro _ _ ⟨rfl, rfl⟩
    refine x_if_eq (tgt := 34) dX11_count_20 rfl (fun c20 => ?_) (fun c20 => ?_)
    · refine x_iconst (v := (-1)) dX11_count_34 (by decide) ?_
      refine x_ireturn dX11_count_35 rfl nb_int ?_
      first | exact ⟨by unfold a_count; rw [if_pos c3], rfl⟩ | exact ⟨by unfold a_count; rw [if_neg c3, if_pos (b_t c20), nI_clamp (by omega)], rfl⟩ | exact ⟨by unfold a_count; rw [if_neg c3, if_neg (b_f c20)], rfl⟩
    · refine x_aload_n dX11_count_23 rfl ?_
      refine y_getr dX11_count_24 F_M_9 (fxo_127 hx) rfl (fxp_127_1 hx) ?_
      refine x_iconst (v := 0) dX11_count_27 (by decide) ?_
      refine x_iload_n dX11_count_28 rfl ?_
      refine x_iadd dX11_count_29 ?_
      obtain ⟨z, hz, rfl⟩ := i_2 (i := what) (n := 8) (by decide) (by have h9 := b_t c20; exact ⟨h9.1, by have h8 := h9.2; show what < 8; grind⟩)
      refine y_iaload dX11_count_30 (fxk_128 hx) (vi (nadd (a := 0) (b := z) rfl rfl) (by omega) (by decide)) (rI (ci (nadd (a := 0) (b := z) rfl rfl) (by omega)) (congrArg (I 128) (Nat.zero_add z))) ?_
      refine x_goto (tgt := 35) dX11_count_31 rfl ?_
      refine x_ireturn dX11_count_35 rfl nb_int ?_
      first | exact ⟨by unfold a_count; rw [if_pos c3], rfl⟩ | exact ⟨by unfold a_count; rw [if_neg c3, if_pos (b_t c20), nI_clamp (by omega)], rfl⟩ | exact ⟨by unfold a_count; rw [if_neg c3, if_neg (b_f c20)], rfl⟩
  · refine x_aload_n dX11_count_6 rfl ?_
    refine y_geti dX11_count_7 F_M_278 (fxo_127 hx) rfl rfl ?_
    refine x_goto (tgt := 35) dX11_count_10 rfl ?_
    refine x_ireturn dX11_count_35 rfl nb_int ?_
    first | exact ⟨by unfold a_count; rw [if_pos c3], rfl⟩ | exact ⟨by unfold a_count; rw [if_neg c3, if_pos (b_t c20), nI_clamp (by omega)], rfl⟩ | exact ⟨by unfold a_count; rw [if_neg c3, if_neg (b_f c20)], rfl⟩

set_option maxHeartbeats 4000000 in
set_option maxRecDepth 100000 in
theorem r_areRight {g : xG} {nx : Nat} {sh : Nat → Nat × Nat} {P : Nat → Nat → Option Nat} {I : Nat → Nat → Int32} (hx : xFx sh P) {b : Int32} (hR : RI (I 128)) : xMet g Y_M_areRight 0 0 0 [.ref 127, .int b] (nx, sh, P, I) (fun r σ => r = some (.int (if slB (I 128) b (cN (I 128) 4) = true then 1 else 0)) ∧ σ = (nx, sh, P, I)) := by
  refine xMet.of [some (.ref 127), some (.int b), none, none, none, none] (by decide +kernel) (Nat.le_of_ble_eq_true rfl) rfl ?_
  obtain ⟨⟨n0, b0, e0⟩, ⟨n1, b1, e1⟩, ⟨n2, b2, e2⟩, ⟨n3, b3, e3⟩, ⟨n4, b4, e4⟩, ⟨n5, b5, e5⟩, ⟨n6, b6, e6⟩, ⟨n7, b7, e7⟩, ⟨n9, b9, e9⟩⟩ := hR.k
  refine x_iconst (v := 1) dX11_areRight_0 (by decide) ?_
  refine x_istore_n dX11_areRight_1 (Nat.le_of_ble_eq_true rfl) ?_
  try simp only [xst, xst2, xclr, xset, xwide]
  refine x_iconst (v := 0) dX11_areRight_2 (by decide) ?_
  refine x_istore_n dX11_areRight_3 (Nat.le_of_ble_eq_true rfl) ?_
  try simp only [xst, xst2, xclr, xset, xwide]
  have K4 : ∀ (fuel : Nat) (i : Nat) (v : Int32) (v4 v5 : Option Value) (hi : i ≤ n4) (hv : v = if slB (I 128) b i = true then 1 else 0), n4 - i < fuel → xX g Y_M_areRight 0 0 0 (fun r σ => r = some (.int (if slB (I 128) b (cN (I 128) 4) = true then 1 else 0)) ∧ σ = (nx, sh, P, I)) 4 [some (.ref 127), some (.int b), some (.int v), some (.int (nI i)), v4, v5] [] (nx, sh, P, I) := by
    intro fuel
    induction fuel with
    | zero => intro i v v4 v5 hi hv hm; exact absurd hm (Nat.not_lt_zero _)
    | succ fuel ih4 =>
      intro i v v4 v5 hi hv hm
      refine x_iload_n dX11_areRight_4 rfl ?_
      refine x_aload_n dX11_areRight_5 rfl ?_
      refine y_getr dX11_areRight_6 F_M_9 (fxo_127 hx) rfl (fxp_127_1 hx) ?_
      refine x_iconst (v := 4) dX11_areRight_9 (by decide) ?_
      refine y_iaload dX11_areRight_10 (fxk_128 hx) (vi (j := 4) rfl (by omega) (by decide)) (rI (j := 4) rfl e4) ?_
      refine x_icmp_ge (tgt := 83) dX11_areRight_11 rfl (fun c11 => ?_) (fun c11 => ?_)
      · have hie : i = n4 := cge_t (by omega) hi c11
        refine x_iload_n dX11_areRight_83 rfl ?_
        refine x_ireturn dX11_areRight_84 rfl (by rw [hv]; exact nb_b) ?_
        subst hie
        exact ⟨by rw [cN_of e4 (by omega), hv], rfl⟩
      · have him : i < n4 := cge_f (by omega) hi c11
        refine x_aload_n dX11_areRight_14 rfl ?_
        refine y_getr dX11_areRight_15 F_M_9 (fxo_127 hx) rfl (fxp_127_1 hx) ?_
        refine x_bipush (v := 77) dX11_areRight_18 (by decide) ?_
        refine x_iload_n dX11_areRight_20 rfl ?_
        refine x_iadd dX11_areRight_21 ?_
        refine y_iaload dX11_areRight_22 (fxk_128 hx) (vi (j := (77 + i)) (nadd (a := 77) (b := i) rfl rfl) (by omega) (by decide)) (rI (j := (77 + i)) (ci (nadd (a := 77) (b := i) rfl rfl) (by omega)) rfl) ?_
        refine x_istore dX11_areRight_23 (Nat.le_of_ble_eq_true rfl) ?_
        try simp only [xst, xst2, xclr, xset, xwide]
        refine x_aload_n dX11_areRight_25 rfl ?_
        refine y_getr dX11_areRight_26 F_M_9 (fxo_127 hx) rfl (fxp_127_1 hx) ?_
        refine x_bipush (v := 83) dX11_areRight_29 (by decide) ?_
        refine x_iload_n dX11_areRight_31 rfl ?_
        refine x_iadd dX11_areRight_32 ?_
        refine y_iaload dX11_areRight_33 (fxk_128 hx) (vi (j := (83 + i)) (nadd (a := 83) (b := i) rfl rfl) (by omega) (by decide)) (rI (j := (83 + i)) (ci (nadd (a := 83) (b := i) rfl rfl) (by omega)) rfl) ?_
        refine x_istore dX11_areRight_34 (Nat.le_of_ble_eq_true rfl) ?_
        try simp only [xst, xst2, xclr, xset, xwide]
        refine x_iload_n dX11_areRight_36 rfl ?_
        refine x_if_eq (tgt := 75) dX11_areRight_37 rfl (fun c37 => ?_) (fun c37 => ?_)
        · refine x_iconst (v := 0) dX11_areRight_75 (by decide) ?_
          refine x_istore_n dX11_areRight_76 (Nat.le_of_ble_eq_true rfl) ?_
          try simp only [xst, xst2, xclr, xset, xwide]
          refine x_iinc (v := (nI (i + 1))) dX11_areRight_77 rfl (nI_1 _) (Nat.le_of_ble_eq_true rfl) ?_
          try simp only [xst, xst2, xclr, xset, xwide]
          refine x_goto (tgt := 4) dX11_areRight_80 rfl ?_
          exact ih4 (i + 1) _ _ _ (by omega) (by first | exact bv_t slB_s ⟨bi_t (by rw [← hv]; exact c37), Int32.not_le.mp c43, Int32.not_le.mp c49, c68⟩ rfl | exact bv_f slB_s (fun z => c68 z.2.2.2) rfl | exact bv_f slB_s (fun z => absurd z.2.2.1 (Int32.not_lt.mpr c49)) rfl | exact bv_f slB_s (fun z => absurd z.2.1 (Int32.not_lt.mpr c43)) rfl | exact bv_f slB_s (fun z => by rw [hv, if_pos z.1] at c37; exact absurd c37 (by decide)) rfl) (by omega)
        · refine x_iload dX11_areRight_40 rfl ?_
          refine x_iload_n dX11_areRight_42 rfl ?_
          refine x_icmp_ge (tgt := 75) dX11_areRight_43 rfl (fun c43 => ?_) (fun c43 => ?_)
          · refine x_iconst (v := 0) dX11_areRight_75 (by decide) ?_
            refine x_istore_n dX11_areRight_76 (Nat.le_of_ble_eq_true rfl) ?_
            try simp only [xst, xst2, xclr, xset, xwide]
            refine x_iinc (v := (nI (i + 1))) dX11_areRight_77 rfl (nI_1 _) (Nat.le_of_ble_eq_true rfl) ?_
            try simp only [xst, xst2, xclr, xset, xwide]
            refine x_goto (tgt := 4) dX11_areRight_80 rfl ?_
            exact ih4 (i + 1) _ _ _ (by omega) (by first | exact bv_t slB_s ⟨bi_t (by rw [← hv]; exact c37), Int32.not_le.mp c43, Int32.not_le.mp c49, c68⟩ rfl | exact bv_f slB_s (fun z => c68 z.2.2.2) rfl | exact bv_f slB_s (fun z => absurd z.2.2.1 (Int32.not_lt.mpr c49)) rfl | exact bv_f slB_s (fun z => absurd z.2.1 (Int32.not_lt.mpr c43)) rfl | exact bv_f slB_s (fun z => by rw [hv, if_pos z.1] at c37; exact absurd c37 (by decide)) rfl) (by omega)
          · refine x_iload dX11_areRight_46 rfl ?_
            refine x_iload_n dX11_areRight_48 rfl ?_
            refine x_icmp_ge (tgt := 75) dX11_areRight_49 rfl (fun c49 => ?_) (fun c49 => ?_)
            · refine x_iconst (v := 0) dX11_areRight_75 (by decide) ?_
              refine x_istore_n dX11_areRight_76 (Nat.le_of_ble_eq_true rfl) ?_
              try simp only [xst, xst2, xclr, xset, xwide]
              refine x_iinc (v := (nI (i + 1))) dX11_areRight_77 rfl (nI_1 _) (Nat.le_of_ble_eq_true rfl) ?_
              try simp only [xst, xst2, xclr, xset, xwide]
              refine x_goto (tgt := 4) dX11_areRight_80 rfl ?_
              exact ih4 (i + 1) _ _ _ (by omega) (by first | exact bv_t slB_s ⟨bi_t (by rw [← hv]; exact c37), Int32.not_le.mp c43, Int32.not_le.mp c49, c68⟩ rfl | exact bv_f slB_s (fun z => c68 z.2.2.2) rfl | exact bv_f slB_s (fun z => absurd z.2.2.1 (Int32.not_lt.mpr c49)) rfl | exact bv_f slB_s (fun z => absurd z.2.1 (Int32.not_lt.mpr c43)) rfl | exact bv_f slB_s (fun z => by rw [hv, if_pos z.1] at c37; exact absurd c37 (by decide)) rfl) (by omega)
            · refine x_aload_n dX11_areRight_52 rfl ?_
              refine y_getr dX11_areRight_53 F_M_9 (fxo_127 hx) rfl (fxp_127_1 hx) ?_
              refine x_bipush (v := 89) dX11_areRight_56 (by decide) ?_
              refine x_iload_n dX11_areRight_58 rfl ?_
              refine x_iadd dX11_areRight_59 ?_
              refine y_iaload dX11_areRight_60 (fxk_128 hx) (vi (j := (89 + i)) (nadd (a := 89) (b := i) rfl rfl) (by omega) (by decide)) (rI (j := (89 + i)) (ci (nadd (a := 89) (b := i) rfl rfl) (by omega)) rfl) ?_
              refine x_iload_n dX11_areRight_61 rfl ?_
              refine x_iload dX11_areRight_62 rfl ?_
              refine x_imul dX11_areRight_64 ?_
              refine x_iload dX11_areRight_65 rfl ?_
              refine x_iadd dX11_areRight_67 ?_
              refine x_icmp_ne (tgt := 75) dX11_areRight_68 rfl (fun c68 => ?_) (fun c68 => ?_)
              · refine x_iconst (v := 0) dX11_areRight_75 (by decide) ?_
                refine x_istore_n dX11_areRight_76 (Nat.le_of_ble_eq_true rfl) ?_
                try simp only [xst, xst2, xclr, xset, xwide]
                refine x_iinc (v := (nI (i + 1))) dX11_areRight_77 rfl (nI_1 _) (Nat.le_of_ble_eq_true rfl) ?_
                try simp only [xst, xst2, xclr, xset, xwide]
                refine x_goto (tgt := 4) dX11_areRight_80 rfl ?_
                exact ih4 (i + 1) _ _ _ (by omega) (by first | exact bv_t slB_s ⟨bi_t (by rw [← hv]; exact c37), Int32.not_le.mp c43, Int32.not_le.mp c49, c68⟩ rfl | exact bv_f slB_s (fun z => c68 z.2.2.2) rfl | exact bv_f slB_s (fun z => absurd z.2.2.1 (Int32.not_lt.mpr c49)) rfl | exact bv_f slB_s (fun z => absurd z.2.1 (Int32.not_lt.mpr c43)) rfl | exact bv_f slB_s (fun z => by rw [hv, if_pos z.1] at c37; exact absurd c37 (by decide)) rfl) (by omega)
              · refine x_iconst (v := 1) dX11_areRight_71 (by decide) ?_
                refine x_goto (tgt := 76) dX11_areRight_72 rfl ?_
                refine x_istore_n dX11_areRight_76 (Nat.le_of_ble_eq_true rfl) ?_
                try simp only [xst, xst2, xclr, xset, xwide]
                refine x_iinc (v := (nI (i + 1))) dX11_areRight_77 rfl (nI_1 _) (Nat.le_of_ble_eq_true rfl) ?_
                try simp only [xst, xst2, xclr, xset, xwide]
                refine x_goto (tgt := 4) dX11_areRight_80 rfl ?_
                exact ih4 (i + 1) _ _ _ (by omega) (by first | exact bv_t slB_s ⟨bi_t (by rw [← hv]; exact c37), Int32.not_le.mp c43, Int32.not_le.mp c49, c68⟩ rfl | exact bv_f slB_s (fun z => c68 z.2.2.2) rfl | exact bv_f slB_s (fun z => absurd z.2.2.1 (Int32.not_lt.mpr c49)) rfl | exact bv_f slB_s (fun z => absurd z.2.1 (Int32.not_lt.mpr c43)) rfl | exact bv_f slB_s (fun z => by rw [hv, if_pos z.1] at c37; exact absurd c37 (by decide)) rfl) (by omega)
  exact K4 _ 0 1 none none (Nat.zero_le _) rfl (Nat.lt_succ_self _)

/-- COUNTS from 20 down to b + 1: how many, the least -/
def slC (s : Nat → Int32) : Nat → Int32 × Int32
  | 0 => (0, -5)
  | n + 1 => if slB s (nI (20 - n)) (cN s 4) = true then ((slC s n).1 + 1, nI (20 - n)) else slC s n
def a_counts (s : Nat → Int32) (w : Int32) : Int32 := if 0 ≤ w ∧ w ≤ 1 then (if w = 0 then (slC s 19).1 else (slC s 19).2) else -1
theorem slC_s {s : Nat → Int32} {i : Nat} : slC s (i + 1) = if slB s (nI (20 - i)) (cN s 4) = true then ((slC s i).1 + 1, nI (20 - i)) else slC s i := rfl

set_option maxHeartbeats 4000000 in
set_option maxRecDepth 100000 in
theorem r_counts {g : xG} {nx : Nat} {sh : Nat → Nat × Nat} {P : Nat → Nat → Option Nat} {I : Nat → Nat → Int32} (hx : xFx sh P) {what : Int32} (hR : RI (I 128)) : xMet g Y_M_counts 1 0 0 [.ref 127, .int what] (nx, sh, P, I) (fun r σ => r = some (.int (a_counts (I 128) what)) ∧ σ = (nx, sh, P, I)) := by
  refine xMet.of [some (.ref 127), some (.int what), none, none, none, none] (by decide +kernel) (Nat.le_of_ble_eq_true rfl) rfl ?_
  refine x_iload_n dX11_counts_0 rfl ?_
  refine x_iconst (v := 0) dX11_counts_1 (by decide) ?_
  refine x_iconst (v := 1) dX11_counts_2 (by decide) ?_
  refine x_callS (k2 := 0) (n2 := 0) dX11_counts_3 LS_M_65 r_in rfl rfl (Nat.le_of_ble_eq_true rfl) (Nat.le_of_ble_eq_true rfl) (Nat.le_of_ble_eq_true rfl) (Nat.le_of_ble_eq_true rfl) ?_
  rintro _ _ ⟨rfl, rfl⟩
  refine x_if_ne (tgt := 11) dX11_counts_6 rfl (fun c6 => ?_) (fun c6 => ?_)
  · refine x_iconst (v := 0) dX11_counts_11 (by decide) ?_
    refine x_istore_n dX11_counts_12 (Nat.le_of_ble_eq_true rfl) ?_
    try simp only [xst, xst2, xclr, xset, xwide]
    refine x_bipush (v := (-5)) dX11_counts_13 (by decide) ?_
    refine x_istore_n dX11_counts_15 (Nat.le_of_ble_eq_true rfl) ?_
    try simp only [xst, xst2, xclr, xset, xwide]
    refine x_bipush (v := 20) dX11_counts_16 (by decide) ?_
    refine x_istore dX11_counts_18 (Nat.le_of_ble_eq_true rfl) ?_
    try simp only [xst, xst2, xclr, xset, xwide]
    have K20 : ∀ (fuel : Nat) (i : Nat) (a b : Int32) (v5 : Option Value) (hi : i ≤ 19) (ha : a = (slC (I 128) i).1) (hb : b = (slC (I 128) i).2), 19 - i < fuel → xX g Y_M_counts 1 0 0 (fun r σ => r = some (.int (a_counts (I 128) what)) ∧ σ = (nx, sh, P, I)) 20 [some (.ref 127), some (.int what), some (.int a), some (.int b), some (.int (nI (20 - i))), v5] [] (nx, sh, P, I) := by
      intro fuel
      induction fuel with
      | zero => intro i a b v5 hi ha hb hm; exact absurd hm (Nat.not_lt_zero _)
      | succ fuel ih20 =>
        intro i a b v5 hi ha hb hm
        refine x_iload dX11_counts_20 rfl ?_
        refine x_iconst (v := 1) dX11_counts_22 (by decide) ?_
        refine x_icmp_le (tgt := 65) dX11_counts_23 rfl (fun c23 => ?_) (fun c23 => ?_)
        · have hie : i = 19 := by
            rcases Nat.lt_or_ge i 19 with z | z
            · exact absurd c23 (fun h => by have := (nI_leI (b := 1) (by omega) (by decide)).mp h; omega)
            · omega
          subst hie
          refine x_iload_n dX11_counts_65 rfl ?_
          refine x_if_ne (tgt := 73) dX11_counts_66 rfl (fun c66 => ?_) (fun c66 => ?_)
          · refine x_iload_n dX11_counts_73 rfl ?_
            refine x_ireturn dX11_counts_74 rfl nb_int ?_
            first | exact ⟨by unfold a_counts; rw [if_pos (b_t c6), if_pos c66, ha], rfl⟩ | exact ⟨by unfold a_counts; rw [if_pos (b_t c6), if_neg c66, hb], rfl⟩
          · refine x_iload_n dX11_counts_69 rfl ?_
            refine x_goto (tgt := 74) dX11_counts_70 rfl ?_
            refine x_ireturn dX11_counts_74 rfl nb_int ?_
            first | exact ⟨by unfold a_counts; rw [if_pos (b_t c6), if_pos c66, ha], rfl⟩ | exact ⟨by unfold a_counts; rw [if_pos (b_t c6), if_neg c66, hb], rfl⟩
        · have him : i < 19 := by
            rcases Nat.lt_or_ge i 19 with z | z
            · exact z
            · exact absurd (show nI (20 - i) ≤ 1 from nI_le (b := 1) (by omega) (by decide)) c23
          refine x_aload_n dX11_counts_26 rfl ?_
          refine x_iload dX11_counts_27 rfl ?_
          refine x_callV (k2 := 0) (n2 := 0) dX11_counts_29 LV_M_272 (r_areRight hx hR) rfl rfl (fxo_127 hx) rfl (Nat.le_of_ble_eq_true rfl) (Nat.le_of_ble_eq_true rfl) (Nat.le_of_ble_eq_true rfl) (Nat.le_of_ble_eq_true rfl) ?_
          rintro _ _ ⟨rfl, rfl⟩
          refine x_istore dX11_counts_32 (Nat.le_of_ble_eq_true rfl) ?_
          try simp only [xst, xst2, xclr, xset, xwide]
          refine x_iload_n dX11_counts_34 rfl ?_
          refine x_iload dX11_counts_35 rfl ?_
          refine x_if_eq (tgt := 44) dX11_counts_37 rfl (fun c37 => ?_) (fun c37 => ?_)
          · refine x_iconst (v := 0) dX11_counts_44 (by decide) ?_
            refine x_iadd dX11_counts_45 ?_
            refine x_istore_n dX11_counts_46 (Nat.le_of_ble_eq_true rfl) ?_
            try simp only [xst, xst2, xclr, xset, xwide]
            refine x_iload dX11_counts_47 rfl ?_
            refine x_if_eq (tgt := 57) dX11_counts_49 rfl (fun c49 => ?_) (fun c49 => ?_)
            · refine x_iload_n dX11_counts_57 rfl ?_
              refine x_istore_n dX11_counts_58 (Nat.le_of_ble_eq_true rfl) ?_
              try simp only [xst, xst2, xclr, xset, xwide]
              refine x_iinc (v := (nI (20 - (i + 1)))) dX11_counts_59 rfl (i_m1.trans (by rw [show 20 - i = (20 - (i + 1)) + 1 by omega]; exact nI_pred _)) (Nat.le_of_ble_eq_true rfl) ?_
              try simp only [xst, xst2, xclr, xset, xwide]
              refine x_goto (tgt := 20) dX11_counts_62 rfl ?_
              first | exact absurd c37 c49 | exact absurd c49 c37 | exact ih20 (i + 1) _ _ _ (by omega) (by rw [ha, slC_s]; first | (rw [if_pos (bi_t c37)]) | (rw [if_neg (by rw [bi_f c37]; decide)]; exact Int32.add_zero _)) (by rw [slC_s]; first | (rw [if_pos (bi_t c37)]) | (rw [if_neg (by rw [bi_f c37]; decide)]; exact hb)) (by omega)
            · refine x_iload dX11_counts_52 rfl ?_
              refine x_goto (tgt := 58) dX11_counts_54 rfl ?_
              refine x_istore_n dX11_counts_58 (Nat.le_of_ble_eq_true rfl) ?_
              try simp only [xst, xst2, xclr, xset, xwide]
              refine x_iinc (v := (nI (20 - (i + 1)))) dX11_counts_59 rfl (i_m1.trans (by rw [show 20 - i = (20 - (i + 1)) + 1 by omega]; exact nI_pred _)) (Nat.le_of_ble_eq_true rfl) ?_
              try simp only [xst, xst2, xclr, xset, xwide]
              refine x_goto (tgt := 20) dX11_counts_62 rfl ?_
              first | exact absurd c37 c49 | exact absurd c49 c37 | exact ih20 (i + 1) _ _ _ (by omega) (by rw [ha, slC_s]; first | (rw [if_pos (bi_t c37)]) | (rw [if_neg (by rw [bi_f c37]; decide)]; exact Int32.add_zero _)) (by rw [slC_s]; first | (rw [if_pos (bi_t c37)]) | (rw [if_neg (by rw [bi_f c37]; decide)]; exact hb)) (by omega)
          · refine x_iconst (v := 1) dX11_counts_40 (by decide) ?_
            refine x_goto (tgt := 45) dX11_counts_41 rfl ?_
            refine x_iadd dX11_counts_45 ?_
            refine x_istore_n dX11_counts_46 (Nat.le_of_ble_eq_true rfl) ?_
            try simp only [xst, xst2, xclr, xset, xwide]
            refine x_iload dX11_counts_47 rfl ?_
            refine x_if_eq (tgt := 57) dX11_counts_49 rfl (fun c49 => ?_) (fun c49 => ?_)
            · refine x_iload_n dX11_counts_57 rfl ?_
              refine x_istore_n dX11_counts_58 (Nat.le_of_ble_eq_true rfl) ?_
              try simp only [xst, xst2, xclr, xset, xwide]
              refine x_iinc (v := (nI (20 - (i + 1)))) dX11_counts_59 rfl (i_m1.trans (by rw [show 20 - i = (20 - (i + 1)) + 1 by omega]; exact nI_pred _)) (Nat.le_of_ble_eq_true rfl) ?_
              try simp only [xst, xst2, xclr, xset, xwide]
              refine x_goto (tgt := 20) dX11_counts_62 rfl ?_
              first | exact absurd c37 c49 | exact absurd c49 c37 | exact ih20 (i + 1) _ _ _ (by omega) (by rw [ha, slC_s]; first | (rw [if_pos (bi_t c37)]) | (rw [if_neg (by rw [bi_f c37]; decide)]; exact Int32.add_zero _)) (by rw [slC_s]; first | (rw [if_pos (bi_t c37)]) | (rw [if_neg (by rw [bi_f c37]; decide)]; exact hb)) (by omega)
            · refine x_iload dX11_counts_52 rfl ?_
              refine x_goto (tgt := 58) dX11_counts_54 rfl ?_
              refine x_istore_n dX11_counts_58 (Nat.le_of_ble_eq_true rfl) ?_
              try simp only [xst, xst2, xclr, xset, xwide]
              refine x_iinc (v := (nI (20 - (i + 1)))) dX11_counts_59 rfl (i_m1.trans (by rw [show 20 - i = (20 - (i + 1)) + 1 by omega]; exact nI_pred _)) (Nat.le_of_ble_eq_true rfl) ?_
              try simp only [xst, xst2, xclr, xset, xwide]
              refine x_goto (tgt := 20) dX11_counts_62 rfl ?_
              first | exact absurd c37 c49 | exact absurd c49 c37 | exact ih20 (i + 1) _ _ _ (by omega) (by rw [ha, slC_s]; first | (rw [if_pos (bi_t c37)]) | (rw [if_neg (by rw [bi_f c37]; decide)]; exact Int32.add_zero _)) (by rw [slC_s]; first | (rw [if_pos (bi_t c37)]) | (rw [if_neg (by rw [bi_f c37]; decide)]; exact hb)) (by omega)
    exact K20 _ 0 0 (-5) none (by decide) rfl rfl (Nat.lt_succ_self _)
  · refine x_iconst (v := (-1)) dX11_counts_9 (by decide) ?_
    refine x_ireturn dX11_counts_10 rfl nb_int ?_
    exact ⟨by unfold a_counts; rw [if_neg (b_f c6)], rfl⟩

/-- is a kind that one or under it -/
def undr (kd k : Int32) : Bool := decide (k = 0 ∨ k = kd ∨ (0 < k ∧ k < 4 ∧ kd = k + 3))
def a_as (s : Nat → Int32) (c k : Int32) : Int32 := if (0 ≤ c ∧ c < s 0) ∧ 0 ≤ k ∧ k ≤ 6 then (if undr (s (10 + c.toNatClampNeg)) k = true then s (14 + c.toNatClampNeg) else -6) else -1
def a_trace (tr : Nat → Int32) (ran i : Int32) : Int32 := if 0 ≤ i ∧ i ≤ (if ran < 20 then ran else 20) - 1 then tr i.toNatClampNeg else -1

set_option maxHeartbeats 4000000 in
set_option maxRecDepth 100000 in
theorem r_isUnder {g : xG} {nx : Nat} {sh : Nat → Nat × Nat} {P : Nat → Nat → Option Nat} {I : Nat → Nat → Int32} {kd k : Int32} : xMet g Y_M_isUnder 0 0 0 [.int kd, .int k] (nx, sh, P, I) (fun r σ => r = some (.int (if undr kd k = true then 1 else 0)) ∧ σ = (nx, sh, P, I)) := by
  refine xMet.of [some (.int kd), some (.int k)] (by decide +kernel) (Nat.le_of_ble_eq_true rfl) rfl ?_
  refine x_iload_n dX11_isUnder_0 rfl ?_
  refine x_if_eq (tgt := 25) dX11_isUnder_1 rfl (fun c1 => ?_) (fun c1 => ?_)
  · refine x_iconst (v := 1) dX11_isUnder_25 (by decide) ?_
    refine x_goto (tgt := 30) dX11_isUnder_26 rfl ?_
    refine x_ireturn dX11_isUnder_30 rfl rfl ?_
    refine ⟨?_, rfl⟩
    unfold undr
    by_cases h : k = 0 ∨ k = kd ∨ (0 < k ∧ k < 4 ∧ kd = k + 3)
    · rw [decide_eq_true h]; grind
    · rw [decide_eq_false h]; grind
  · refine x_iload_n dX11_isUnder_4 rfl ?_
    refine x_iload_n dX11_isUnder_5 rfl ?_
    refine x_icmp_eq (tgt := 25) dX11_isUnder_6 rfl (fun c6 => ?_) (fun c6 => ?_)
    · refine x_iconst (v := 1) dX11_isUnder_25 (by decide) ?_
      refine x_goto (tgt := 30) dX11_isUnder_26 rfl ?_
      refine x_ireturn dX11_isUnder_30 rfl rfl ?_
      refine ⟨?_, rfl⟩
      unfold undr
      by_cases h : k = 0 ∨ k = kd ∨ (0 < k ∧ k < 4 ∧ kd = k + 3)
      · rw [decide_eq_true h]; grind
      · rw [decide_eq_false h]; grind
    · refine x_iload_n dX11_isUnder_9 rfl ?_
      refine x_if_le (tgt := 29) dX11_isUnder_10 rfl (fun c10 => ?_) (fun c10 => ?_)
      · refine x_iconst (v := 0) dX11_isUnder_29 (by decide) ?_
        refine x_ireturn dX11_isUnder_30 rfl rfl ?_
        refine ⟨?_, rfl⟩
        unfold undr
        by_cases h : k = 0 ∨ k = kd ∨ (0 < k ∧ k < 4 ∧ kd = k + 3)
        · rw [decide_eq_true h]; grind
        · rw [decide_eq_false h]; grind
      · refine x_iload_n dX11_isUnder_13 rfl ?_
        refine x_iconst (v := 4) dX11_isUnder_14 (by decide) ?_
        refine x_icmp_ge (tgt := 29) dX11_isUnder_15 rfl (fun c15 => ?_) (fun c15 => ?_)
        · refine x_iconst (v := 0) dX11_isUnder_29 (by decide) ?_
          refine x_ireturn dX11_isUnder_30 rfl rfl ?_
          refine ⟨?_, rfl⟩
          unfold undr
          by_cases h : k = 0 ∨ k = kd ∨ (0 < k ∧ k < 4 ∧ kd = k + 3)
          · rw [decide_eq_true h]; grind
          · rw [decide_eq_false h]; grind
        · refine x_iload_n dX11_isUnder_18 rfl ?_
          refine x_iload_n dX11_isUnder_19 rfl ?_
          refine x_iconst (v := 3) dX11_isUnder_20 (by decide) ?_
          refine x_iadd dX11_isUnder_21 ?_
          refine x_icmp_ne (tgt := 29) dX11_isUnder_22 rfl (fun c22 => ?_) (fun c22 => ?_)
          · refine x_iconst (v := 0) dX11_isUnder_29 (by decide) ?_
            refine x_ireturn dX11_isUnder_30 rfl rfl ?_
            refine ⟨?_, rfl⟩
            unfold undr
            by_cases h : k = 0 ∨ k = kd ∨ (0 < k ∧ k < 4 ∧ kd = k + 3)
            · rw [decide_eq_true h]; grind
            · rw [decide_eq_false h]; grind
          · refine x_iconst (v := 1) dX11_isUnder_25 (by decide) ?_
            refine x_goto (tgt := 30) dX11_isUnder_26 rfl ?_
            refine x_ireturn dX11_isUnder_30 rfl rfl ?_
            refine ⟨?_, rfl⟩
            unfold undr
            by_cases h : k = 0 ∨ k = kd ∨ (0 < k ∧ k < 4 ∧ kd = k + 3)
            · rw [decide_eq_true h]; grind
            · rw [decide_eq_false h]; grind

set_option maxHeartbeats 4000000 in
set_option maxRecDepth 100000 in
theorem r_as {g : xG} {nx : Nat} {sh : Nat → Nat × Nat} {P : Nat → Nat → Option Nat} {I : Nat → Nat → Int32} (hx : xFx sh P) {c k : Int32} (hR : RI (I 128)) : xMet g Y_M_as 2 0 0 [.ref 127, .int c, .int k] (nx, sh, P, I) (fun r σ => r = some (.int (a_as (I 128) c k)) ∧ σ = (nx, sh, P, I)) := by
  refine xMet.of [some (.ref 127), some (.int c), some (.int k)] (by decide +kernel) (Nat.le_of_ble_eq_true rfl) rfl ?_
  obtain ⟨⟨n0, b0, e0⟩, ⟨n1, b1, e1⟩, ⟨n2, b2, e2⟩, ⟨n3, b3, e3⟩, ⟨n4, b4, e4⟩, ⟨n5, b5, e5⟩, ⟨n6, b6, e6⟩, ⟨n7, b7, e7⟩, ⟨n9, b9, e9⟩⟩ := hR.k
  refine x_aload_n dX11_as_0 rfl ?_
  refine x_iload_n dX11_as_1 rfl ?_
  refine x_callV (k2 := 0) (n2 := 0) dX11_as_2 LV_M_161 (r_isCoin hx hR.nn0) rfl rfl (fxo_127 hx) rfl (Nat.le_of_ble_eq_true rfl) (Nat.le_of_ble_eq_true rfl) (Nat.le_of_ble_eq_true rfl) (Nat.le_of_ble_eq_true rfl) ?_
  rintro _ _ ⟨rfl, rfl⟩
  refine x_if_eq (tgt := 18) dX11_as_5 rfl (fun c5 => ?_) (fun c5 => ?_)
  · refine x_iconst (v := (-1)) dX11_as_18 (by decide) ?_
    refine x_ireturn dX11_as_19 rfl nb_int ?_
    exact ⟨by unfold a_as; rw [if_neg (fun h => by grind)], rfl⟩
  · refine x_iload_n dX11_as_8 rfl ?_
    refine x_iconst (v := 0) dX11_as_9 (by decide) ?_
    refine x_bipush (v := 6) dX11_as_10 (by decide) ?_
    refine x_callS (k2 := 0) (n2 := 0) dX11_as_12 LS_M_65 r_in rfl rfl (Nat.le_of_ble_eq_true rfl) (Nat.le_of_ble_eq_true rfl) (Nat.le_of_ble_eq_true rfl) (Nat.le_of_ble_eq_true rfl) ?_
    rintro _ _ ⟨rfl, rfl⟩
    refine x_if_ne (tgt := 20) dX11_as_15 rfl (fun c15 => ?_) (fun c15 => ?_)
    · obtain ⟨q, hq, rfl⟩ := i_2 (n := n0) (by omega) (by rw [← e0]; exact b_t c5)
      refine x_aload_n dX11_as_20 rfl ?_
      refine y_getr dX11_as_21 F_M_9 (fxo_127 hx) rfl (fxp_127_1 hx) ?_
      refine x_bipush (v := 10) dX11_as_24 (by decide) ?_
      refine x_iload_n dX11_as_26 rfl ?_
      refine x_iadd dX11_as_27 ?_
      refine y_iaload dX11_as_28 (fxk_128 hx) (vi (j := (10 + q)) (nadd (a := 10) (b := q) rfl rfl) (by omega) (by decide)) (rI (j := (10 + q)) (ci (nadd (a := 10) (b := q) rfl rfl) (by omega)) rfl) ?_
      refine x_iload_n dX11_as_29 rfl ?_
      refine x_callS (k2 := 0) (n2 := 0) dX11_as_30 LS_M_290 r_isUnder rfl rfl (Nat.le_of_ble_eq_true rfl) (Nat.le_of_ble_eq_true rfl) (Nat.le_of_ble_eq_true rfl) (Nat.le_of_ble_eq_true rfl) ?_
      rintro _ _ ⟨rfl, rfl⟩
      refine x_if_eq (tgt := 48) dX11_as_33 rfl (fun c33 => ?_) (fun c33 => ?_)
      · refine x_bipush (v := (-6)) dX11_as_48 (by decide) ?_
        refine x_ireturn dX11_as_50 rfl nb_int ?_
        first | exact ⟨by unfold a_as; rw [if_pos ⟨b_t c5, b_t c15⟩, nI_clamp (by omega), if_pos (bi_t c33)], rfl⟩ | exact ⟨by unfold a_as; rw [if_pos ⟨b_t c5, b_t c15⟩, nI_clamp (by omega), if_neg (by rw [bi_f c33]; decide)], rfl⟩
      · refine x_aload_n dX11_as_36 rfl ?_
        refine y_getr dX11_as_37 F_M_9 (fxo_127 hx) rfl (fxp_127_1 hx) ?_
        refine x_bipush (v := 14) dX11_as_40 (by decide) ?_
        refine x_iload_n dX11_as_42 rfl ?_
        refine x_iadd dX11_as_43 ?_
        refine y_iaload dX11_as_44 (fxk_128 hx) (vi (j := (14 + q)) (nadd (a := 14) (b := q) rfl rfl) (by omega) (by decide)) (rI (j := (14 + q)) (ci (nadd (a := 14) (b := q) rfl rfl) (by omega)) rfl) ?_
        refine x_goto (tgt := 50) dX11_as_45 rfl ?_
        refine x_ireturn dX11_as_50 rfl nb_int ?_
        first | exact ⟨by unfold a_as; rw [if_pos ⟨b_t c5, b_t c15⟩, nI_clamp (by omega), if_pos (bi_t c33)], rfl⟩ | exact ⟨by unfold a_as; rw [if_pos ⟨b_t c5, b_t c15⟩, nI_clamp (by omega), if_neg (by rw [bi_f c33]; decide)], rfl⟩
    · refine x_iconst (v := (-1)) dX11_as_18 (by decide) ?_
      refine x_ireturn dX11_as_19 rfl nb_int ?_
      exact ⟨by unfold a_as; rw [if_neg (fun h => by grind)], rfl⟩

set_option maxHeartbeats 4000000 in
set_option maxRecDepth 100000 in
theorem r_trace {g : xG} {nx : Nat} {sh : Nat → Nat × Nat} {P : Nat → Nat → Option Nat} {I : Nat → Nat → Int32} (hx : xFx sh P) {i ran : Int32} (hr : ran = I 127 30) (h0 : 0 ≤ ran) : xMet g Y_M_trace 1 0 0 [.ref 127, .int i] (nx, sh, P, I) (fun r σ => r = some (.int (a_trace (I 143) ran i)) ∧ σ = (nx, sh, P, I)) := by
  refine xMet.of [some (.ref 127), some (.int i)] (by decide +kernel) (Nat.le_of_ble_eq_true rfl) rfl ?_
  refine x_iload_n dX11_trace_0 rfl ?_
  refine x_iconst (v := 0) dX11_trace_1 (by decide) ?_
  refine x_aload_n dX11_trace_2 rfl ?_
  refine y_geti dX11_trace_3 F_M_278 (fxo_127 hx) rfl hr.symm ?_
  refine x_bipush (v := 20) dX11_trace_6 (by decide) ?_
  refine x_icmp_ge (tgt := 18) dX11_trace_8 rfl (fun c8 => ?_) (fun c8 => ?_)
  · refine x_bipush (v := 20) dX11_trace_18 (by decide) ?_
    refine x_iconst (v := 1) dX11_trace_20 (by decide) ?_
    refine x_isub dX11_trace_21 ?_
    refine x_callS (k2 := 0) (n2 := 0) dX11_trace_22 LS_M_65 r_in rfl rfl (Nat.le_of_ble_eq_true rfl) (Nat.le_of_ble_eq_true rfl) (Nat.le_of_ble_eq_true rfl) (Nat.le_of_ble_eq_true rfl) ?_
    rintro _ _ ⟨rfl, rfl⟩
    refine x_if_eq (tgt := 37) dX11_trace_25 rfl (fun c25 => ?_) (fun c25 => ?_)
    · refine x_iconst (v := (-1)) dX11_trace_37 (by decide) ?_
      refine x_ireturn dX11_trace_38 rfl nb_int ?_
      have hrr : ran = I 127 30 := hr
      first | exact ⟨by unfold a_trace; rw [if_pos (by first | (rw [if_pos (Int32.not_le.mp c8)]; exact b_t c25) | (rw [if_neg (fun h => absurd h (Int32.not_lt.mpr c8))]; exact b_t c25)), ez, nI_clamp (by omega)], rfl⟩ | exact ⟨by unfold a_trace; rw [if_neg (by first | (rw [if_pos (Int32.not_le.mp c8)]; exact b_f c25) | (rw [if_neg (fun h => absurd h (Int32.not_lt.mpr c8))]; exact b_f c25))], rfl⟩
    · obtain ⟨z, hz, ez⟩ : ∃ z, z < 20 ∧ i = nI z := by
        have h9 := b_t c25
        obtain ⟨z, hz, ez⟩ := i_2 (i := i) (n := 20) (by decide) ⟨h9.1, by have h8 := h9.2; show i < 20; grind⟩
        exact ⟨z, hz, ez⟩
      refine x_aload_n dX11_trace_28 rfl ?_
      refine y_getr dX11_trace_29 F_M_58 (fxo_127 hx) rfl (fxp_127_29 hx) ?_
      refine x_iload_n dX11_trace_32 rfl ?_
      refine y_iaload dX11_trace_33 (fxk_143 hx) (vi ez (by omega) (by decide)) (rI (ci ez (by omega)) rfl) ?_
      refine x_goto (tgt := 38) dX11_trace_34 rfl ?_
      refine x_ireturn dX11_trace_38 rfl nb_int ?_
      have hrr : ran = I 127 30 := hr
      first | exact ⟨by unfold a_trace; rw [if_pos (by first | (rw [if_pos (Int32.not_le.mp c8)]; exact b_t c25) | (rw [if_neg (fun h => absurd h (Int32.not_lt.mpr c8))]; exact b_t c25)), ez, nI_clamp (by omega)], rfl⟩ | exact ⟨by unfold a_trace; rw [if_neg (by first | (rw [if_pos (Int32.not_le.mp c8)]; exact b_f c25) | (rw [if_neg (fun h => absurd h (Int32.not_lt.mpr c8))]; exact b_f c25))], rfl⟩
  · refine x_aload_n dX11_trace_11 rfl ?_
    refine y_geti dX11_trace_12 F_M_278 (fxo_127 hx) rfl hr.symm ?_
    refine x_goto (tgt := 20) dX11_trace_15 rfl ?_
    refine x_iconst (v := 1) dX11_trace_20 (by decide) ?_
    refine x_isub dX11_trace_21 ?_
    refine x_callS (k2 := 0) (n2 := 0) dX11_trace_22 LS_M_65 r_in rfl rfl (Nat.le_of_ble_eq_true rfl) (Nat.le_of_ble_eq_true rfl) (Nat.le_of_ble_eq_true rfl) (Nat.le_of_ble_eq_true rfl) ?_
    rintro _ _ ⟨rfl, rfl⟩
    refine x_if_eq (tgt := 37) dX11_trace_25 rfl (fun c25 => ?_) (fun c25 => ?_)
    · refine x_iconst (v := (-1)) dX11_trace_37 (by decide) ?_
      refine x_ireturn dX11_trace_38 rfl nb_int ?_
      have hrr : ran = I 127 30 := hr
      first | exact ⟨by unfold a_trace; rw [if_pos (by first | (rw [if_pos (Int32.not_le.mp c8)]; exact b_t c25) | (rw [if_neg (fun h => absurd h (Int32.not_lt.mpr c8))]; exact b_t c25)), ez, nI_clamp (by omega)], rfl⟩ | exact ⟨by unfold a_trace; rw [if_neg (by first | (rw [if_pos (Int32.not_le.mp c8)]; exact b_f c25) | (rw [if_neg (fun h => absurd h (Int32.not_lt.mpr c8))]; exact b_f c25))], rfl⟩
    · obtain ⟨z, hz, ez⟩ : ∃ z, z < 20 ∧ i = nI z := by
        have h9 := b_t c25
        obtain ⟨z, hz, ez⟩ := i_2 (i := i) (n := 20) (by decide) ⟨h9.1, by have h8 := h9.2; show i < 20; grind⟩
        exact ⟨z, hz, ez⟩
      refine x_aload_n dX11_trace_28 rfl ?_
      refine y_getr dX11_trace_29 F_M_58 (fxo_127 hx) rfl (fxp_127_29 hx) ?_
      refine x_iload_n dX11_trace_32 rfl ?_
      refine y_iaload dX11_trace_33 (fxk_143 hx) (vi ez (by omega) (by decide)) (rI (ci ez (by omega)) rfl) ?_
      refine x_goto (tgt := 38) dX11_trace_34 rfl ?_
      refine x_ireturn dX11_trace_38 rfl nb_int ?_
      have hrr : ran = I 127 30 := hr
      first | exact ⟨by unfold a_trace; rw [if_pos (by first | (rw [if_pos (Int32.not_le.mp c8)]; exact b_t c25) | (rw [if_neg (fun h => absurd h (Int32.not_lt.mpr c8))]; exact b_t c25)), ez, nI_clamp (by omega)], rfl⟩ | exact ⟨by unfold a_trace; rw [if_neg (by first | (rw [if_pos (Int32.not_le.mp c8)]; exact b_f c25) | (rw [if_neg (fun h => absurd h (Int32.not_lt.mpr c8))]; exact b_f c25))], rfl⟩

set_option maxHeartbeats 4000000 in
set_option maxRecDepth 100000 in
theorem r_image {g : xG} {nx : Nat} {sh : Nat → Nat × Nat} {P : Nat → Nat → Option Nat} {I : Nat → Nat → Int32} (hx : xFx sh P)  : xMet g Y_M_image 0 0 0 [.ref 127] (nx, sh, P, I) (fun r σ => ∃ I1 : Nat → Nat → Int32, r = some (.int (I 128 0)) ∧ σ = (nx, sh, P, I1) ∧ (∀ j, j < 932 → I1 129 j = I 128 j) ∧ I1 127 3 = 1 ∧ xFrm [127, 129] I I1 ∧ ∀ j, j ≠ 3 → I1 127 j = I 127 j) := by
  refine xMet.of [some (.ref 127), none] (by decide +kernel) (Nat.le_of_ble_eq_true rfl) rfl ?_
  refine x_iconst (v := 0) dX11_image_0 (by decide) ?_
  refine x_istore_n dX11_image_1 (Nat.le_of_ble_eq_true rfl) ?_
  try simp only [xst, xst2, xclr, xset, xwide]
  refine y_st (I' := va_up I 129 (xTk (I 128) (I 129) 0)) (by rw [xTk_0, va_up_id]) ?_
  have K2 : ∀ (fuel : Nat) (i : Nat) (hi : i ≤ 932), 932 - i < fuel → xX g Y_M_image 0 0 0 (fun r σ => ∃ I1 : Nat → Nat → Int32, r = some (.int (I 128 0)) ∧ σ = (nx, sh, P, I1) ∧ (∀ j, j < 932 → I1 129 j = I 128 j) ∧ I1 127 3 = 1 ∧ xFrm [127, 129] I I1 ∧ ∀ j, j ≠ 3 → I1 127 j = I 127 j) 2 [some (.ref 127), some (.int (nI i))] [] (nx, sh, P, va_up I 129 (xTk (I 128) (I 129) i)) := by
    intro fuel
    induction fuel with
    | zero => intro i hi hm; exact absurd hm (Nat.not_lt_zero _)
    | succ fuel ih2 =>
      intro i hi hm
      refine x_iload_n dX11_image_2 rfl ?_
      refine x_sipush (v := 932) dX11_image_3 (by decide) ?_
      refine x_icmp_ge (tgt := 27) dX11_image_6 rfl (fun c6 => ?_) (fun c6 => ?_)
      · have hie : i = 932 := cge_t (by decide) hi c6
        refine x_aload_n dX11_image_27 rfl ?_
        refine x_iconst (v := 1) dX11_image_28 (by decide) ?_
        refine x_puti dX11_image_29 F_M_315 T_11_3 (fxo_127 hx) rfl rfl rfl ?_
        refine x_aload_n dX11_image_32 rfl ?_
        refine y_getr dX11_image_33 F_M_9 (fxo_127 hx) rfl (fxp_127_1 hx) ?_
        refine x_iconst (v := 0) dX11_image_36 (by decide) ?_
        refine y_iaload dX11_image_37 (fxk_128 hx) (vi (j := 0) rfl (by omega) (by decide)) (rI (j := 0) (ci rfl (by omega)) ((congrFun (xup_n (by decide)) _).trans (rdn (by decide)))) ?_
        refine x_ireturn dX11_image_38 rfl nb_int ?_
        subst hie
        exact ⟨_, rfl, rfl, fun j hj => by rw [xup_n (by decide), va_up_at]; exact if_pos hj, by rw [xup_at, if_pos ⟨rfl, rfl⟩], xFrm.xup (l1 := [129]) (xFrm.rf.up (l1 := [])), fun j hj => by rw [xup_at, if_neg (fun z => hj z.2)]; exact rdn (by decide)⟩
      · have him : i < 932 := cge_f (by decide) hi c6
        refine x_aload_n dX11_image_9 rfl ?_
        refine y_getr dX11_image_10 F_M_15 (fxo_127 hx) rfl (fxp_127_2 hx) ?_
        refine x_iload_n dX11_image_13 rfl ?_
        refine x_aload_n dX11_image_14 rfl ?_
        refine y_getr dX11_image_15 F_M_9 (fxo_127 hx) rfl (fxp_127_1 hx) ?_
        refine x_iload_n dX11_image_18 rfl ?_
        refine y_iaload dX11_image_19 (fxk_128 hx) (vi (j := i) rfl (by omega) (by decide)) (rI (j := i) (ci rfl (by omega)) (rdn (by decide))) ?_
        refine y_iastore dX11_image_20 (fxk_129 hx) (vi (j := i) rfl (by omega) (by decide)) (ci (j := i) rfl (by omega)) ?_
        rw [xup_row, xTk_s]
        refine x_iinc (v := (nI (i + 1))) dX11_image_21 rfl (nI_1 _) (Nat.le_of_ble_eq_true rfl) ?_
        try simp only [xst, xst2, xclr, xset, xwide]
        refine x_goto (tgt := 2) dX11_image_24 rfl ?_
        exact ih2 (i + 1) (by omega) (by omega)
  exact K2 _ 0 (by decide) (Nat.lt_succ_self _)

set_option maxHeartbeats 4000000 in
set_option maxRecDepth 100000 in
theorem r_undo {g : xG} {nx : Nat} {sh : Nat → Nat × Nat} {P : Nat → Nat → Option Nat} {I : Nat → Nat → Int32} (hx : xFx sh P) {b : Int32} (hh : b = I 127 3) : xMet g Y_M_undo 0 0 0 [.ref 127] (nx, sh, P, I) (fun r σ => (b = 0 ∧ r = some (.int (-3)) ∧ σ = (nx, sh, P, I)) ∨ (¬ b = 0 ∧ ∃ I1 : Nat → Nat → Int32, r = some (.int (I 129 0)) ∧ σ = (nx, sh, P, I1) ∧ (∀ j, j < 932 → I1 128 j = I 129 j) ∧ xFrm [128] I I1)) := by
  refine xMet.of [some (.ref 127), none] (by decide +kernel) (Nat.le_of_ble_eq_true rfl) rfl ?_
  refine x_aload_n dX11_undo_0 rfl ?_
  refine y_geti dX11_undo_1 F_M_315 (fxo_127 hx) rfl hh.symm ?_
  refine x_if_ne (tgt := 10) dX11_undo_4 rfl (fun c4 => ?_) (fun c4 => ?_)
  · refine x_iconst (v := 0) dX11_undo_10 (by decide) ?_
    refine x_istore_n dX11_undo_11 (Nat.le_of_ble_eq_true rfl) ?_
    try simp only [xst, xst2, xclr, xset, xwide]
    refine y_st (I' := va_up I 128 (xTk (I 129) (I 128) 0)) (by rw [xTk_0, va_up_id]) ?_
    have K12 : ∀ (fuel : Nat) (i : Nat) (hi : i ≤ 932), 932 - i < fuel → xX g Y_M_undo 0 0 0 (fun r σ => (b = 0 ∧ r = some (.int (-3)) ∧ σ = (nx, sh, P, I)) ∨ (¬ b = 0 ∧ ∃ I1 : Nat → Nat → Int32, r = some (.int (I 129 0)) ∧ σ = (nx, sh, P, I1) ∧ (∀ j, j < 932 → I1 128 j = I 129 j) ∧ xFrm [128] I I1)) 12 [some (.ref 127), some (.int (nI i))] [] (nx, sh, P, va_up I 128 (xTk (I 129) (I 128) i)) := by
      intro fuel
      induction fuel with
      | zero => intro i hi hm; exact absurd hm (Nat.not_lt_zero _)
      | succ fuel ih12 =>
        intro i hi hm
        refine x_iload_n dX11_undo_12 rfl ?_
        refine x_sipush (v := 932) dX11_undo_13 (by decide) ?_
        refine x_icmp_ge (tgt := 37) dX11_undo_16 rfl (fun c16 => ?_) (fun c16 => ?_)
        · have hie : i = 932 := cge_t (by decide) hi c16
          subst hie
          refine x_aload_n dX11_undo_37 rfl ?_
          refine y_getr dX11_undo_38 F_M_9 (fxo_127 hx) rfl (fxp_127_1 hx) ?_
          refine x_iconst (v := 0) dX11_undo_41 (by decide) ?_
          
          refine y_iaload dX11_undo_42 (fxk_128 hx) (vi (j := 0) rfl (by omega) (by decide)) (rI (j := 0) rfl ((congrFun va_up_at _).trans (if_pos (by decide) : xTk (I 129) (I 128) 932 0 = I 129 0))) ?_
          refine x_ireturn dX11_undo_43 rfl nb_int ?_
          exact Or.inr ⟨c4, _, rfl, rfl, fun j hj => by rw [va_up_at]; exact if_pos hj, xFrm.rf.up (l1 := [])⟩
        · have him : i < 932 := cge_f (by decide) hi c16
          refine x_aload_n dX11_undo_19 rfl ?_
          refine y_getr dX11_undo_20 F_M_9 (fxo_127 hx) rfl (fxp_127_1 hx) ?_
          refine x_iload_n dX11_undo_23 rfl ?_
          refine x_aload_n dX11_undo_24 rfl ?_
          refine y_getr dX11_undo_25 F_M_15 (fxo_127 hx) rfl (fxp_127_2 hx) ?_
          refine x_iload_n dX11_undo_28 rfl ?_
          refine y_iaload dX11_undo_29 (fxk_129 hx) (vi (j := i) rfl (by omega) (by decide)) (rI (j := i) (ci rfl (by omega)) (rdn (by decide))) ?_
          refine y_iastore dX11_undo_30 (fxk_128 hx) (vi (j := i) rfl (by omega) (by decide)) (ci (j := i) rfl (by omega)) ?_
          rw [xup_row, xTk_s]
          refine x_iinc (v := (nI (i + 1))) dX11_undo_31 rfl (nI_1 _) (Nat.le_of_ble_eq_true rfl) ?_
          try simp only [xst, xst2, xclr, xset, xwide]
          refine x_goto (tgt := 12) dX11_undo_34 rfl ?_
          exact ih12 (i + 1) (by omega) (by omega)
    exact K12 _ 0 (by decide) (Nat.lt_succ_self _)
  · skip
    refine x_bipush (v := (-3)) dX11_undo_7 (by decide) ?_
    refine x_ireturn dX11_undo_9 rfl nb_int ?_
    exact Or.inl ⟨c4, rfl, rfl⟩
