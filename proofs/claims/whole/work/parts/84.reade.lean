/-! the class: the tape unrolled, a bracket closed -/
set_option maxHeartbeats 4000000 in
set_option maxRecDepth 100000 in
theorem m_Reader_unroll {g : xG} {nx : Nat} {sh : Nat → Nat × Nat} {P : Nat → Nat → Option Nat} {I : Nat → Nat → Int32} (hx : xFx sh P) {s : Nat → Int32} (hW : xWN nx sh P I s) (hR : RI s) : xMet g Y_Reader_unroll 2 0 0 [.ref 97] (nx, sh, P, I) (fun r σ => ∃ I1 : Nat → Nat → Int32, r = none ∧ σ = (nx, sh, P, I1) ∧ xFrm [97, 98] I I1 ∧ xRr I1 (fun j => s (117 + j)) (cN s 7) 0 ∧ ∀ k, k ≠ 2 → k ≠ 3 → I1 97 k = I 97 k) := by
  refine xMet.of [some (.ref 97), none] (by decide +kernel) (Nat.le_of_ble_eq_true rfl) rfl ?_
  obtain ⟨⟨tTape, tCoins, tWares, tBuys, tSlates, tPlans, tBooked⟩, ⟨cTape, cCoins, cWares, cBuys, cSlates, cPlans, cBooked⟩, hW7, hW9, hL⟩ := id hW
  obtain ⟨⟨n0, b0, e0⟩, ⟨n1, b1, e1⟩, ⟨n2, b2, e2⟩, ⟨n3, b3, e3⟩, ⟨n4, b4, e4⟩, ⟨n5, b5, e5⟩, ⟨n6, b6, e6⟩, ⟨n7, b7, e7⟩, ⟨n9, b9, e9⟩⟩ := hR.k
  have k7 : cN s 7 = n7 := cN_of e7 (by omega)
  rw [k7] at tTape cTape
  have k0 : cN s 0 = n0 := cN_of e0 (by omega)
  rw [k0] at tCoins cCoins
  have k1 : cN s 1 = n1 := cN_of e1 (by omega)
  rw [k1] at tWares cWares
  have k3 : cN s 3 = n3 := cN_of e3 (by omega)
  rw [k3] at tBuys cBuys
  have k4 : cN s 4 = n4 := cN_of e4 (by omega)
  rw [k4] at tSlates cSlates
  have k5 : cN s 5 = n5 := cN_of e5 (by omega)
  rw [k5] at tPlans cPlans
  have k6 : cN s 6 = n6 := cN_of e6 (by omega)
  rw [k6] at tBooked cBooked
  refine x_aload_n dX6_unroll_0 rfl ?_
  refine x_iconst (v := 0) dX6_unroll_1 (by decide) ?_
  refine x_puti dX6_unroll_2 F_Reader_19 T_6_3 (fxo_97 hx) rfl rfl rfl ?_
  refine x_aload_n dX6_unroll_5 rfl ?_
  refine x_aload_n dX6_unroll_6 rfl ?_
  refine y_getr dX6_unroll_7 F_Reader_34 (fxo_97 hx) rfl (fxp_97_0 hx) ?_
  refine x_callV (k2 := 0) (n2 := 0) dX6_unroll_10 LV_Reader_56 (m_Table_rows (tTape.other (xup_n (by decide)))) rfl rfl (fxo_66 hx) rfl (Nat.le_of_ble_eq_true rfl) (Nat.le_of_ble_eq_true rfl) (Nat.le_of_ble_eq_true rfl) (Nat.le_of_ble_eq_true rfl) ?_
  rintro _ _ ⟨rfl, rfl⟩
  refine x_aload_n dX6_unroll_13 rfl ?_
  refine y_getr dX6_unroll_14 F_Reader_9 (fxo_97 hx) rfl (fxp_97_1 hx) ?_
  refine y_alen dX6_unroll_17 (fxk_98 hx) (by decide) ?_
  refine x_callS (k2 := 0) (n2 := 0) dX6_unroll_18 LS_Reader_62 m_min rfl rfl (Nat.le_of_ble_eq_true rfl) (Nat.le_of_ble_eq_true rfl) (Nat.le_of_ble_eq_true rfl) (Nat.le_of_ble_eq_true rfl) ?_
  rintro _ _ ⟨rfl, rfl⟩
  rw [if_pos (nI_le b7 (by decide))]
  refine x_puti dX6_unroll_21 F_Reader_15 T_6_2 (fxo_97 hx) rfl rfl rfl ?_
  refine x_iconst (v := 0) dX6_unroll_24 (by decide) ?_
  refine x_istore_n dX6_unroll_25 (Nat.le_of_ble_eq_true rfl) ?_
  try simp only [xst, xst2, xclr, xset, xwide]
  have K26 : ∀ (fuel : Nat) (i : Nat) (I2 : Nat → Nat → Int32) (hi : i ≤ n7) (hF : xFrm [97, 98] I I2) (f2 : I2 97 2 = nI n7) (f3 : I2 97 3 = nI 0) (hk : ∀ k, k ≠ 2 → k ≠ 3 → I2 97 k = I 97 k) (hs : ∀ j, j < i → I2 98 j = s (117 + j)), n7 - i < fuel → xX g Y_Reader_unroll 2 0 0 (fun r σ => ∃ I1 : Nat → Nat → Int32, r = none ∧ σ = (nx, sh, P, I1) ∧ xFrm [97, 98] I I1 ∧ xRr I1 (fun j => s (117 + j)) (cN s 7) 0 ∧ ∀ k, k ≠ 2 → k ≠ 3 → I1 97 k = I 97 k) 26 [some (.ref 97), some (.int (nI i))] [] (nx, sh, P, I2) := by
    intro fuel
    induction fuel with
    | zero => intro i I2 hi hF f2 f3 hk hs hm; exact absurd hm (Nat.not_lt_zero _)
    | succ fuel ih26 =>
      intro i I2 hi hF f2 f3 hk hs hm
      have tT2 : xTb sh P I2 66 67 1 100 n7 := tTape.other (hF 66 (by decide))
      have e67 : I2 67 = I 67 := hF 67 (by decide)
      refine x_iload_n dX6_unroll_26 rfl ?_
      refine x_aload_n dX6_unroll_27 rfl ?_
      refine y_geti dX6_unroll_28 F_Reader_15 (fxo_97 hx) rfl f2 ?_
      refine x_icmp_ge (tgt := 55) dX6_unroll_31 rfl (fun c31 => ?_) (fun c31 => ?_)
      · have hie : i = n7 := cge_t (by omega) hi c31
        refine x_return dX6_unroll_55 rfl ?_
        exact ⟨I2, rfl, rfl, hF, ⟨by rw [k7]; exact f2, f3, by omega, Nat.zero_le _, fun j hj => hs j (by omega)⟩, hk⟩
      · have him : i < n7 := cge_f (by omega) hi c31
        refine x_aload_n dX6_unroll_34 rfl ?_
        refine y_getr dX6_unroll_35 F_Reader_9 (fxo_97 hx) rfl (fxp_97_1 hx) ?_
        refine x_iload_n dX6_unroll_38 rfl ?_
        refine x_aload_n dX6_unroll_39 rfl ?_
        refine y_getr dX6_unroll_40 F_Reader_34 (fxo_97 hx) rfl (fxp_97_0 hx) ?_
        refine x_iload_n dX6_unroll_43 rfl ?_
        refine x_iconst (v := 0) dX6_unroll_44 (by decide) ?_
        refine x_callV (k2 := 0) (n2 := 0) dX6_unroll_45 LV_Reader_68 (m_Table_get tT2 (x := nI i) (z := nI 0)) rfl rfl (fxo_66 hx) rfl (Nat.le_of_ble_eq_true rfl) (Nat.le_of_ble_eq_true rfl) (Nat.le_of_ble_eq_true rfl) (Nat.le_of_ble_eq_true rfl) ?_
        rintro _ _ ⟨rfl, rfl⟩
        rw [show xTg I2 67 1 n7 (nI i) (nI 0) = s (117 + i) from by
          rw [xTg_in (r := i) (k := 0) him (by omega) (by omega) (by omega), e67]; exact cTape i him]
        refine y_iastore dX6_unroll_48 (fxk_98 hx) (vi rfl (show i < 100 by omega) (by decide)) (ci rfl (by omega)) ?_
        refine x_iinc (v := (nI (i + 1))) dX6_unroll_49 rfl (nI_1 _) (Nat.le_of_ble_eq_true rfl) ?_
        try simp only [xst, xst2, xclr, xset, xwide]
        refine x_goto (tgt := 26) dX6_unroll_52 rfl ?_
        exact ih26 (i + 1) _ (by omega) (xFrs hF) ((xo (by decide)).trans f2) ((xo (by decide)).trans f3) (fun k h1 h2 => (xo (by decide)).trans (hk k h1 h2)) (fun j hj => by
          rw [xup_at]
          by_cases h : j = i
          · rw [if_pos ⟨rfl, h⟩, h]
          · rw [if_neg (fun z => h z.2)]; exact hs j (by omega)) (by omega)
  exact K26 _ 0 _ (Nat.zero_le _) (xFrs (xFrs xFrm.rf)) xs (by rw [xf (by decide)]; exact xs) (fun k h1 h2 => (xf h1).trans (xf h2)) (fun j h => absurd h (Nat.not_lt_zero j)) (Nat.lt_succ_self _)

set_option maxHeartbeats 4000000 in
set_option maxRecDepth 100000 in
theorem m_Reader_close {g : xG} {nx : Nat} {sh : Nat → Nat × Nat} {P : Nat → Nat → Option Nat} {I : Nat → Nat → Int32} (hx : xFx sh P) {u w : Int32} (hu : I 97 7 = u) (ho : I 97 6 = w) : xMet g Y_Reader_close 0 0 0 [.ref 97] (nx, sh, P, I) (fun r σ => r = none ∧ σ = (nx, sh, P, xup (xup I 97 7 (u >>> (1 &&& 31))) 97 6 (w - 1))) := by
  refine xMet.of [some (.ref 97)] (by decide +kernel) (Nat.le_of_ble_eq_true rfl) rfl ?_
  refine x_aload_n dX6_close_0 rfl ?_
  refine x_dup dX6_close_1 rfl ?_
  refine y_geti dX6_close_2 F_Reader_31 (fxo_97 hx) rfl hu ?_
  refine x_iconst (v := 1) dX6_close_5 (by decide) ?_
  refine x_ishr dX6_close_6 ?_
  refine x_puti dX6_close_7 F_Reader_31 T_6_7 (fxo_97 hx) rfl rfl rfl ?_
  refine x_aload_n dX6_close_10 rfl ?_
  refine x_dup dX6_close_11 rfl ?_
  refine y_geti dX6_close_12 F_Reader_28 (fxo_97 hx) rfl ((xf (by decide)).trans ho) ?_
  refine x_iconst (v := 1) dX6_close_15 (by decide) ?_
  refine x_isub dX6_close_16 ?_
  refine x_puti dX6_close_17 F_Reader_28 T_6_6 (fxo_97 hx) rfl rfl rfl ?_
  refine x_return dX6_close_20 rfl ?_
  exact ⟨rfl, rfl⟩
