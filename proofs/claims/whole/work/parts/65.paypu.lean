/-! the class: pay, ways, change, told, mean -/
theorem pwV_f {s : Nat → Int32} (hR : RI s) : pwV s (puN s) = wv s := by funext c; exact pwV_s hR
theorem pyR {s : Nat → Int32} (hR : RI s) {p : Int32} {back : Nat} {b0 : Nat → Int32} (hbk : back ≤ 3) : xRf (fwS (pwV s (puN s)) (pyV (cN s 0) back (puN s)) p b0 (sfx (pyLn (cN s 0) back (puN s)) 4 0)) (pyA s p back) ∧ wyS (pwV s (puN s)) (pyV (cN s 0) back (puN s)) p (sfx (pyLn (cN s 0) back (puN s)) 4 0) = (pyA s p back).2.1 := by
  rw [pwV_f hR]
  exact py_br (r0 := fun _ => 0) hbk (fun c _ => puN_bd hR c)
theorem rcP_e {s f w : Nat → Int32} (hR : RI s) (hf : ∀ c, c < 4 → f c = nI (puN s c)) (hw : ∀ c, c < 4 → w c = pwV s (puN s) c) : ∀ m, m ≤ 4 → rcP f w m = rcS s (min m (cN s 0))
  | 0, _ => by rw [Nat.zero_min]; rfl
  | m + 1, hm => by
    show rcP f w m + f m * w m = _
    rw [rcP_e hR hf hw m (by omega), hf m (by omega), hw m (by omega), pwV_s hR]
    unfold wv
    by_cases h : m < cN s 0
    · obtain ⟨p, hp, hp2⟩ := pu_of hR h
      rw [if_pos h, Nat.min_eq_left (by omega), Nat.min_eq_left (by omega)]
      show _ = rcS s m + s (22 + m) * wc s m
      unfold puN
      rw [if_pos h, hp2, nI_clamp (by omega)]
    · rw [if_neg h, Int32.mul_zero, Int32.add_zero, Nat.min_eq_right (by omega), Nat.min_eq_right (by omega)]
def opK (f : Int32) (n : Nat) (b : Nat → Int32) (k : Int32) : Int32 := if f = -5 ∨ k = -1 then f else if 0 ≤ k ∧ k < nI n then b k.toNatClampNeg else -5
theorem opK_e {a : Int32 × (Nat → Int32)} {st : PS} {n : Nat} {k : Int32} (h : xRf a st) (hn : n ≤ 4) (hk : -1 ≤ k ∧ k ≤ 3) : opK a.1 n a.2 k = if st.1 = 1000000 ∨ nI n ≤ k then -5 else if k = -1 then st.1 else st.2.2 k.toNatClampNeg := by
  unfold opK
  rcases h with ⟨q1, q2⟩ | ⟨q1, ⟨z, hz, ez⟩, q3⟩
  · rw [if_pos (Or.inl q1), if_pos (Or.inl q2), q1]
  · have h5 : ¬ a.1 = -5 := by rw [q1, ez]; exact nI_m5 (by omega)
    have h6 : ¬ st.1 = 1000000 := by rw [ez]; exact fun y => by have := (nI_eqI (b := 1000000) (by omega) (by decide)).mp y; omega
    by_cases hk1 : k = -1
    · rw [if_pos (Or.inr hk1), if_neg (fun y => y.elim h6 (fun y2 => by rw [hk1] at y2; exact absurd (Int32.le_trans (nI_0le (by omega)) y2) (by decide))), if_pos hk1, q1]
    · have hk0 : 0 ≤ k := by
        have h1 := Int32.le_iff_toInt_le.mp hk.1
        have h2 : ¬ k.toInt = -1 := fun y => hk1 (Int32.toInt_inj.mp y)
        refine Int32.le_iff_toInt_le.mpr ?_
        have e1 : (-1 : Int32).toInt = -1 := rfl
        show (0 : Int) ≤ _
        omega
      rw [if_neg (fun y => y.elim h5 hk1)]
      by_cases hkn : k < nI n
      · obtain ⟨j, hj, rfl⟩ := i_2 (by omega) ⟨hk0, hkn⟩
        rw [if_pos ⟨hk0, hkn⟩, if_neg (fun y => y.elim h6 (Int32.not_le.mpr hkn)), if_neg hk1, nI_clamp (by omega)]
        exact q3 j (by omega)
      · rw [if_neg (fun y => hkn y.2), if_pos (Or.inr (Int32.not_lt.mp hkn))]
set_option maxHeartbeats 4000000 in
set_option maxRecDepth 100000 in
theorem m_C_ofBest {g : xG} {nx : Nat} {sh : Nat → Nat × Nat} {P : Nat → Nat → Option Nat} {I : Nat → Nat → Int32} (hx : xFx sh P) {s : Nat → Int32} (hW : xWN nx sh P I s) (hR : RI s) {f k : Int32} : xMet g Y_C_ofBest 1 0 0 [.ref 64, .int f, .int k] (nx, sh, P, I) (fun r σ => r = some (.int (opK f (cN s 0) (I 116) k)) ∧ σ = (nx, sh, P, I)) := by
  refine xMet.of [some (.ref 64), some (.int f), some (.int k)] (by decide +kernel) (Nat.le_of_ble_eq_true rfl) rfl ?_
  obtain ⟨⟨tTape, tCoins, tWares, tBuys, tSlates, tPlans, tBooked⟩, ⟨cTape, cCoins, cWares, cBuys, cSlates, cPlans, cBooked⟩, hW7, hW9, hL⟩ := id hW
  obtain ⟨⟨n0, b0, e0⟩, ⟨n1, b1, e1⟩, ⟨n2, b2, e2⟩, ⟨n3, b3, e3⟩, ⟨n4, b4, e4⟩, ⟨n5, b5, e5⟩, ⟨n6, b6, e6⟩, ⟨n7, b7, e7⟩, ⟨n9, b9, e9⟩⟩ := hR.k
  have k7 : cN s 7 = n7 := cN_of e7 (by omega)
  rw [k7] at tTape cTape
  have k0 : cN s 0 = n0 := cN_of e0 (by omega)
  rw [k0] at tCoins cCoins
  have k1 : cN s 1 = n1 := cN_of e1 (by omega)
  rw [k1] at tWares cWares
  have k3 : cN s 3 = n3 := cN_of e3 (by omega)
  rw [k3] at tBuys cBuys
  have k4 : cN s 4 = n4 := cN_of e4 (by omega)
  rw [k4] at tSlates cSlates
  have k5 : cN s 5 = n5 := cN_of e5 (by omega)
  rw [k5] at tPlans cPlans
  have k6 : cN s 6 = n6 := cN_of e6 (by omega)
  rw [k6] at tBooked cBooked
  refine x_iload_n dX10_ofBest_0 rfl ?_
  refine x_bipush (v := (-5)) dX10_ofBest_1 (by decide) ?_
  refine x_icmp_eq (tgt := 11) dX10_ofBest_3 rfl (fun c3 => ?_) (fun c3 => ?_)
  · skip
    refine x_iload_n dX10_ofBest_11 rfl ?_
    refine x_ireturn dX10_ofBest_12 rfl nb_int ?_
    exact ⟨by unfold opK; rw [if_pos (Or.inl c3)], rfl⟩
  · refine x_iload_n dX10_ofBest_6 rfl ?_
    refine x_iconst (v := (-1)) dX10_ofBest_7 (by decide) ?_
    refine x_icmp_ne (tgt := 13) dX10_ofBest_8 rfl (fun c8 => ?_) (fun c8 => ?_)
    · refine x_aload_n dX10_ofBest_13 rfl ?_
      refine y_getr dX10_ofBest_14 F_C_12 (fxo_64 hx) rfl (fxp_64_0 hx) ?_
      refine y_getr dX10_ofBest_17 F_C_110 (fxo_65 hx) rfl (fxp_65_1 hx) ?_
      refine x_iload_n dX10_ofBest_20 rfl ?_
      refine x_callV (k2 := 0) (n2 := 0) dX10_ofBest_21 LV_C_113 (m_Table_has tCoins) rfl rfl (fxo_68 hx) rfl (Nat.le_of_ble_eq_true rfl) (Nat.le_of_ble_eq_true rfl) (Nat.le_of_ble_eq_true rfl) (Nat.le_of_ble_eq_true rfl) ?_
      rintro _ _ ⟨rfl, rfl⟩
      refine x_if_eq (tgt := 38) dX10_ofBest_24 rfl (fun c24 => ?_) (fun c24 => ?_)
      · skip
        refine x_bipush (v := (-5)) dX10_ofBest_38 (by decide) ?_
        refine x_ireturn dX10_ofBest_40 rfl nb_int ?_
        exact ⟨by unfold opK; rw [if_neg (fun y => y.elim c3 c8), k0, if_neg (b_f c24)], rfl⟩
      · obtain ⟨q, hq, rfl⟩ := i_2 (n := n0) (by omega) (b_t c24)
        refine x_aload_n dX10_ofBest_27 rfl ?_
        refine y_getr dX10_ofBest_28 F_C_50 (fxo_64 hx) rfl (fxp_64_5 hx) ?_
        refine x_iload_n dX10_ofBest_31 rfl ?_
        refine x_callV (k2 := 0) (n2 := 0) dX10_ofBest_32 LV_C_192 (m_Payer_ofBest hx (c := q) (by omega)) rfl rfl (fxo_109 hx) rfl (Nat.le_of_ble_eq_true rfl) (Nat.le_of_ble_eq_true rfl) (Nat.le_of_ble_eq_true rfl) (Nat.le_of_ble_eq_true rfl) ?_
        rintro _ _ ⟨rfl, rfl⟩
        skip
        refine x_goto (tgt := 40) dX10_ofBest_35 rfl ?_
        refine x_ireturn dX10_ofBest_40 rfl nb_int ?_
        exact ⟨by unfold opK; rw [if_neg (fun y => y.elim c3 c8), k0, if_pos (b_t c24), nI_clamp (by omega)], rfl⟩
    · skip
      refine x_iload_n dX10_ofBest_11 rfl ?_
      refine x_ireturn dX10_ofBest_12 rfl nb_int ?_
      exact ⟨by unfold opK; rw [if_pos (Or.inr c8)], rfl⟩

set_option maxHeartbeats 4000000 in
set_option maxRecDepth 100000 in
theorem m_C_pay {g : xG} {nx : Nat} {sh : Nat → Nat × Nat} {P : Nat → Nat → Option Nat} {I : Nat → Nat → Int32} (hx : xFx sh P) {s : Nat → Int32} (hW : xWN nx sh P I s) (hR : RI s) {p k : Int32} : xMet g Y_C_pay 6 0 0 [.ref 64, .int p, .int k] (nx, sh, P, I) (fun r σ => ∃ I1 : Nat → Nat → Int32, r = some (.int (a_pay s p k)) ∧ σ = (nx, sh, P, I1) ∧ xFrm [80, 110, 111, 113, 114, 115, 116] I I1) := by
  refine xMet.of [some (.ref 64), some (.int p), some (.int k)] (by decide +kernel) (Nat.le_of_ble_eq_true rfl) rfl ?_
  obtain ⟨⟨tTape, tCoins, tWares, tBuys, tSlates, tPlans, tBooked⟩, ⟨cTape, cCoins, cWares, cBuys, cSlates, cPlans, cBooked⟩, hW7, hW9, hL⟩ := id hW
  obtain ⟨⟨n0, b0, e0⟩, ⟨n1, b1, e1⟩, ⟨n2, b2, e2⟩, ⟨n3, b3, e3⟩, ⟨n4, b4, e4⟩, ⟨n5, b5, e5⟩, ⟨n6, b6, e6⟩, ⟨n7, b7, e7⟩, ⟨n9, b9, e9⟩⟩ := hR.k
  have k7 : cN s 7 = n7 := cN_of e7 (by omega)
  rw [k7] at tTape cTape
  have k0 : cN s 0 = n0 := cN_of e0 (by omega)
  rw [k0] at tCoins cCoins
  have k1 : cN s 1 = n1 := cN_of e1 (by omega)
  rw [k1] at tWares cWares
  have k3 : cN s 3 = n3 := cN_of e3 (by omega)
  rw [k3] at tBuys cBuys
  have k4 : cN s 4 = n4 := cN_of e4 (by omega)
  rw [k4] at tSlates cSlates
  have k5 : cN s 5 = n5 := cN_of e5 (by omega)
  rw [k5] at tPlans cPlans
  have k6 : cN s 6 = n6 := cN_of e6 (by omega)
  rw [k6] at tBooked cBooked
  refine x_iload_n dX10_pay_0 rfl ?_
  refine x_iconst (v := (-1)) dX10_pay_1 (by decide) ?_
  refine x_iconst (v := 3) dX10_pay_2 (by decide) ?_
  refine x_callS (k2 := 0) (n2 := 0) dX10_pay_3 LS_C_71 m_C_isOutside rfl rfl (Nat.le_of_ble_eq_true rfl) (Nat.le_of_ble_eq_true rfl) (Nat.le_of_ble_eq_true rfl) (Nat.le_of_ble_eq_true rfl) ?_
  rintro _ _ ⟨rfl, rfl⟩
  refine x_if_eq (tgt := 11) dX10_pay_6 rfl (fun c6 => ?_) (fun c6 => ?_)
  · refine x_iload_n dX10_pay_11 rfl ?_
    refine x_iconst (v := 0) dX10_pay_12 (by decide) ?_
    refine x_bipush (v := 99) dX10_pay_13 (by decide) ?_
    refine x_callS (k2 := 0) (n2 := 0) dX10_pay_15 LS_C_71 m_C_isOutside rfl rfl (Nat.le_of_ble_eq_true rfl) (Nat.le_of_ble_eq_true rfl) (Nat.le_of_ble_eq_true rfl) (Nat.le_of_ble_eq_true rfl) ?_
    rintro _ _ ⟨rfl, rfl⟩
    refine x_if_eq (tgt := 24) dX10_pay_18 rfl (fun c18 => ?_) (fun c18 => ?_)
    · refine x_aload_n dX10_pay_24 rfl ?_
      refine y_getr dX10_pay_25 F_C_50 (fxo_64 hx) rfl (fxp_64_5 hx) ?_
      refine x_callV (k2 := 0) (n2 := 0) dX10_pay_28 LV_C_137 (m_Payer_openPurse hx hW hR) rfl rfl (fxo_109 hx) rfl (Nat.le_of_ble_eq_true rfl) (Nat.le_of_ble_eq_true rfl) (Nat.le_of_ble_eq_true rfl) (Nat.le_of_ble_eq_true rfl) ?_
      rintro _ _ ⟨I1, rfl, rfl, hF1, hpy⟩
      have hW1 := hW.fl hF1
      refine x_aload_n dX10_pay_31 rfl ?_
      refine x_aload_n dX10_pay_32 rfl ?_
      refine y_getr dX10_pay_33 F_C_50 (fxo_64 hx) rfl (fxp_64_5 hx) ?_
      refine x_iload_n dX10_pay_36 rfl ?_
      refine x_iconst (v := 0) dX10_pay_37 (by decide) ?_
      refine x_callV (k2 := 0) (n2 := 0) dX10_pay_38 LV_C_186 (m_Payer_fewest (I := I1) (p := p) (back := 0) hx hW1 hR (by decide) hpy) rfl rfl (fxo_109 hx) rfl (Nat.le_of_ble_eq_true rfl) (Nat.le_of_ble_eq_true rfl) (Nat.le_of_ble_eq_true rfl) (Nat.le_of_ble_eq_true rfl) ?_
      rintro _ _ ⟨I2, rfl, rfl, hF2, hb2⟩
      have hF : xFrm [80, 110, 111, 113, 114, 115, 116] I I2 := hF1.tr (l1 := [80, 110, 111]) (l2 := [113, 114, 115, 116]) hF2
      have hpr := (pyR hR (p := p) (back := 0) (b0 := I1 116) (by decide)).1
      refine x_iload_n dX10_pay_41 rfl ?_
      refine x_callV (k2 := 0) (n2 := 0) dX10_pay_42 LV_C_189 (m_C_ofBest (I := I2) hx (hW.fl hF) hR) rfl rfl (fxo_64 hx) rfl (Nat.le_of_ble_eq_true rfl) (Nat.le_of_ble_eq_true rfl) (Nat.le_of_ble_eq_true rfl) (Nat.le_of_ble_eq_true rfl) ?_
      rintro _ _ ⟨rfl, rfl⟩
      refine x_ireturn dX10_pay_45 rfl nb_int ?_
      exact ⟨I2, by unfold a_pay; rw [if_pos (o_t c6), if_pos (o_t c18), hb2, opK_e hpr (by omega) (o_t c6), k0, e0], rfl, hF⟩
    · refine x_bipush (v := (-2)) dX10_pay_21 (by decide) ?_
      refine x_ireturn dX10_pay_23 rfl nb_int ?_
      exact ⟨I, by unfold a_pay; rw [if_pos (o_t c6), if_neg (o_f c18)], rfl, xFrm.rf⟩
  · refine x_iconst (v := (-1)) dX10_pay_9 (by decide) ?_
    refine x_ireturn dX10_pay_10 rfl nb_int ?_
    exact ⟨I, by unfold a_pay; rw [if_neg (o_f c6)], rfl, xFrm.rf⟩

set_option maxHeartbeats 4000000 in
set_option maxRecDepth 100000 in
theorem m_C_ways {g : xG} {nx : Nat} {sh : Nat → Nat × Nat} {P : Nat → Nat → Option Nat} {I : Nat → Nat → Int32} (hx : xFx sh P) {s : Nat → Int32} (hW : xWN nx sh P I s) (hR : RI s) {p : Int32} : xMet g Y_C_ways 6 0 0 [.ref 64, .int p] (nx, sh, P, I) (fun r σ => ∃ I1 : Nat → Nat → Int32, r = some (.int (a_ways s p)) ∧ σ = (nx, sh, P, I1) ∧ xFrm [80, 110, 111, 113, 114, 115, 116] I I1) := by
  refine xMet.of [some (.ref 64), some (.int p)] (by decide +kernel) (Nat.le_of_ble_eq_true rfl) rfl ?_
  obtain ⟨⟨tTape, tCoins, tWares, tBuys, tSlates, tPlans, tBooked⟩, ⟨cTape, cCoins, cWares, cBuys, cSlates, cPlans, cBooked⟩, hW7, hW9, hL⟩ := id hW
  obtain ⟨⟨n0, b0, e0⟩, ⟨n1, b1, e1⟩, ⟨n2, b2, e2⟩, ⟨n3, b3, e3⟩, ⟨n4, b4, e4⟩, ⟨n5, b5, e5⟩, ⟨n6, b6, e6⟩, ⟨n7, b7, e7⟩, ⟨n9, b9, e9⟩⟩ := hR.k
  have k7 : cN s 7 = n7 := cN_of e7 (by omega)
  rw [k7] at tTape cTape
  have k0 : cN s 0 = n0 := cN_of e0 (by omega)
  rw [k0] at tCoins cCoins
  have k1 : cN s 1 = n1 := cN_of e1 (by omega)
  rw [k1] at tWares cWares
  have k3 : cN s 3 = n3 := cN_of e3 (by omega)
  rw [k3] at tBuys cBuys
  have k4 : cN s 4 = n4 := cN_of e4 (by omega)
  rw [k4] at tSlates cSlates
  have k5 : cN s 5 = n5 := cN_of e5 (by omega)
  rw [k5] at tPlans cPlans
  have k6 : cN s 6 = n6 := cN_of e6 (by omega)
  rw [k6] at tBooked cBooked
  refine x_iload_n dX10_ways_0 rfl ?_
  refine x_iconst (v := 0) dX10_ways_1 (by decide) ?_
  refine x_bipush (v := 99) dX10_ways_2 (by decide) ?_
  refine x_callS (k2 := 0) (n2 := 0) dX10_ways_4 LS_C_71 m_C_isOutside rfl rfl (Nat.le_of_ble_eq_true rfl) (Nat.le_of_ble_eq_true rfl) (Nat.le_of_ble_eq_true rfl) (Nat.le_of_ble_eq_true rfl) ?_
  rintro _ _ ⟨rfl, rfl⟩
  refine x_if_eq (tgt := 13) dX10_ways_7 rfl (fun c7 => ?_) (fun c7 => ?_)
  · refine x_aload_n dX10_ways_13 rfl ?_
    refine y_getr dX10_ways_14 F_C_50 (fxo_64 hx) rfl (fxp_64_5 hx) ?_
    refine x_callV (k2 := 0) (n2 := 0) dX10_ways_17 LV_C_137 (m_Payer_openPurse hx hW hR) rfl rfl (fxo_109 hx) rfl (Nat.le_of_ble_eq_true rfl) (Nat.le_of_ble_eq_true rfl) (Nat.le_of_ble_eq_true rfl) (Nat.le_of_ble_eq_true rfl) ?_
    rintro _ _ ⟨I1, rfl, rfl, hF1, hpy⟩
    have hW1 := hW.fl hF1
    refine x_aload_n dX10_ways_20 rfl ?_
    refine y_getr dX10_ways_21 F_C_50 (fxo_64 hx) rfl (fxp_64_5 hx) ?_
    refine x_iload_n dX10_ways_24 rfl ?_
    refine x_callV (k2 := 0) (n2 := 0) dX10_ways_25 LV_C_194 (m_Payer_howManyWays (I := I1) (p := p) hx hW1 hR hpy) rfl rfl (fxo_109 hx) rfl (Nat.le_of_ble_eq_true rfl) (Nat.le_of_ble_eq_true rfl) (Nat.le_of_ble_eq_true rfl) (Nat.le_of_ble_eq_true rfl) ?_
    rintro _ _ ⟨I2, rfl, rfl, hF2⟩
    have hF : xFrm [80, 110, 111, 113, 114, 115, 116] I I2 := hF1.tr (l1 := [80, 110, 111]) (l2 := [113, 114, 115, 116]) hF2
    have hpr := (pyR hR (p := p) (back := 0) (b0 := fun _ => 0) (by decide)).2
    refine x_ireturn dX10_ways_28 rfl nb_int ?_
    exact ⟨I2, by unfold a_ways; rw [if_pos (o_t c7), ← hpr], rfl, hF⟩
  · refine x_bipush (v := (-2)) dX10_ways_10 (by decide) ?_
    refine x_ireturn dX10_ways_12 rfl nb_int ?_
    exact ⟨I, by unfold a_ways; rw [if_neg (o_f c7)], rfl, xFrm.rf⟩

set_option maxHeartbeats 4000000 in
set_option maxRecDepth 100000 in
theorem m_C_change {g : xG} {nx : Nat} {sh : Nat → Nat × Nat} {P : Nat → Nat → Option Nat} {I : Nat → Nat → Int32} (hx : xFx sh P) {s : Nat → Int32} (hW : xWN nx sh P I s) (hR : RI s) {p : Int32} : xMet g Y_C_change 6 0 0 [.ref 64, .int p] (nx, sh, P, I) (fun r σ => ∃ I1 : Nat → Nat → Int32, r = some (.int (a_change s p)) ∧ σ = (nx, sh, P, I1) ∧ xFrm [80, 110, 111, 113, 114, 115, 116] I I1) := by
  refine xMet.of [some (.ref 64), some (.int p)] (by decide +kernel) (Nat.le_of_ble_eq_true rfl) rfl ?_
  obtain ⟨⟨tTape, tCoins, tWares, tBuys, tSlates, tPlans, tBooked⟩, ⟨cTape, cCoins, cWares, cBuys, cSlates, cPlans, cBooked⟩, hW7, hW9, hL⟩ := id hW
  obtain ⟨⟨n0, b0, e0⟩, ⟨n1, b1, e1⟩, ⟨n2, b2, e2⟩, ⟨n3, b3, e3⟩, ⟨n4, b4, e4⟩, ⟨n5, b5, e5⟩, ⟨n6, b6, e6⟩, ⟨n7, b7, e7⟩, ⟨n9, b9, e9⟩⟩ := hR.k
  have k7 : cN s 7 = n7 := cN_of e7 (by omega)
  rw [k7] at tTape cTape
  have k0 : cN s 0 = n0 := cN_of e0 (by omega)
  rw [k0] at tCoins cCoins
  have k1 : cN s 1 = n1 := cN_of e1 (by omega)
  rw [k1] at tWares cWares
  have k3 : cN s 3 = n3 := cN_of e3 (by omega)
  rw [k3] at tBuys cBuys
  have k4 : cN s 4 = n4 := cN_of e4 (by omega)
  rw [k4] at tSlates cSlates
  have k5 : cN s 5 = n5 := cN_of e5 (by omega)
  rw [k5] at tPlans cPlans
  have k6 : cN s 6 = n6 := cN_of e6 (by omega)
  rw [k6] at tBooked cBooked
  refine x_iload_n dX10_change_0 rfl ?_
  refine x_iconst (v := 0) dX10_change_1 (by decide) ?_
  refine x_bipush (v := 99) dX10_change_2 (by decide) ?_
  refine x_callS (k2 := 0) (n2 := 0) dX10_change_4 LS_C_71 m_C_isOutside rfl rfl (Nat.le_of_ble_eq_true rfl) (Nat.le_of_ble_eq_true rfl) (Nat.le_of_ble_eq_true rfl) (Nat.le_of_ble_eq_true rfl) ?_
  rintro _ _ ⟨rfl, rfl⟩
  refine x_if_eq (tgt := 13) dX10_change_7 rfl (fun c7 => ?_) (fun c7 => ?_)
  · refine x_aload_n dX10_change_13 rfl ?_
    refine y_getr dX10_change_14 F_C_50 (fxo_64 hx) rfl (fxp_64_5 hx) ?_
    refine x_callV (k2 := 0) (n2 := 0) dX10_change_17 LV_C_137 (m_Payer_openPurse hx hW hR) rfl rfl (fxo_109 hx) rfl (Nat.le_of_ble_eq_true rfl) (Nat.le_of_ble_eq_true rfl) (Nat.le_of_ble_eq_true rfl) (Nat.le_of_ble_eq_true rfl) ?_
    rintro _ _ ⟨I1, rfl, rfl, hF1, hpy⟩
    have hW1 := hW.fl hF1
    refine x_aload_n dX10_change_20 rfl ?_
    refine y_getr dX10_change_21 F_C_50 (fxo_64 hx) rfl (fxp_64_5 hx) ?_
    refine x_iload_n dX10_change_24 rfl ?_
    refine x_iconst (v := 3) dX10_change_25 (by decide) ?_
    refine x_callV (k2 := 0) (n2 := 0) dX10_change_26 LV_C_186 (m_Payer_fewest (I := I1) (p := p) (back := 3) hx hW1 hR (by decide) hpy) rfl rfl (fxo_109 hx) rfl (Nat.le_of_ble_eq_true rfl) (Nat.le_of_ble_eq_true rfl) (Nat.le_of_ble_eq_true rfl) (Nat.le_of_ble_eq_true rfl) ?_
    rintro _ _ ⟨I2, rfl, rfl, hF2, hb2⟩
    have hF : xFrm [80, 110, 111, 113, 114, 115, 116] I I2 := hF1.tr (l1 := [80, 110, 111]) (l2 := [113, 114, 115, 116]) hF2
    have hpr := (pyR hR (p := p) (back := 3) (b0 := I1 116) (by decide)).1
    refine x_ireturn dX10_change_29 rfl nb_int ?_
    refine ⟨I2, ?_, rfl, hF⟩
    unfold a_change
    rw [if_pos (o_t c7)]
    rcases hpr with ⟨q1, q2⟩ | ⟨q1, ⟨z, hz, ez⟩, -⟩
    · rw [if_pos q2, q1]
    · rw [if_neg (by rw [ez]; exact fun y => by have := (nI_eqI (b := 1000000) (by omega) (by decide)).mp y; omega), q1]
  · refine x_bipush (v := (-2)) dX10_change_10 (by decide) ?_
    refine x_ireturn dX10_change_12 rfl nb_int ?_
    exact ⟨I, by unfold a_change; rw [if_neg (o_f c7)], rfl, xFrm.rf⟩

theorem w10 {w : Int32} {n : Nat} (hn : n ≤ 5) : (0 ≤ w - 10 ∧ w - 10 ≤ nI n - 1) ↔ (10 ≤ w ∧ 0 ≤ w - 10 ∧ w - 10 < nI n) := by
  constructor
  · intro h
    obtain ⟨h1, h2⟩ := lt_pred (by omega) h.1 h.2
    obtain ⟨z, hz, ez⟩ := i_2 (by omega) ⟨h1, h2⟩
    have : w = nI (z + 10) := by rw [← nI_add, ← ez]; show w = w - 10 + 10; rw [Int32.sub_add_cancel]
    exact ⟨by rw [this]; exact nI_le (a := 10) (by omega) (by omega), h1, h2⟩
  · rintro ⟨-, h1, h2⟩
    obtain ⟨z, hz, ez⟩ := i_2 (by omega) ⟨h1, h2⟩
    obtain ⟨m, rfl⟩ : ∃ m, n = m + 1 := ⟨n - 1, by omega⟩
    rw [nI_pred, ez]
    exact ⟨nI_0le (by omega), nI_le (by omega) (by omega)⟩
theorem told_no {s : Nat → Int32} {w : Int32} {n : Nat} (hn : n ≤ 5) (e1 : s 1 = nI n) (h3 : ¬ (0 ≤ w ∧ w ≤ 3)) (h : ¬ (10 ≤ w ∧ 0 ≤ w - 10 ∧ w - 10 < nI n)) : a_told s w = -1 := by
  unfold a_told
  rw [e1, if_neg (fun y => h ((w10 hn).mp y)), if_neg (fun y => h3 (by rw [y]; decide)), if_neg (fun y => h3 (by rw [y]; decide)), if_neg (fun y => h3 (by rw [y]; decide)), if_neg (fun y => h3 (by rw [y]; decide))]
theorem told_s {s : Nat → Int32} {w : Int32} {n : Nat} (hn : n ≤ 5) (e1 : s 1 = nI n) (h : w = 0 ∨ w = 1 ∨ w = 2 ∨ w = 3) : a_told s w = if w = 0 then s 9 else if w = 1 then tpN s else if w = 2 then tlO s 222 0 else rcS s (cN s 0) := by
  unfold a_told
  have hno : ¬ (10 ≤ w ∧ 0 ≤ w - 10 ∧ w - 10 < nI n) := fun y => by rcases h with rfl | rfl | rfl | rfl <;> exact absurd y.1 (by decide)
  rw [e1, if_neg (fun y => hno ((w10 hn).mp y))]
  rcases h with rfl | rfl | rfl | rfl <;> rfl
set_option maxHeartbeats 4000000 in
set_option maxRecDepth 100000 in
theorem m_C_told {g : xG} {nx : Nat} {sh : Nat → Nat × Nat} {P : Nat → Nat → Option Nat} {I : Nat → Nat → Int32} (hx : xFx sh P) {s : Nat → Int32} (hW : xWN nx sh P I s) (hR : RI s) {what : Int32} : xMet g Y_C_told 6 0 0 [.ref 64, .int what] (nx, sh, P, I) (fun r σ => ∃ I1 : Nat → Nat → Int32, r = some (.int (a_told s what)) ∧ σ = (nx, sh, P, I1) ∧ xFrm [80, 110, 111] I I1) := by
  refine xMet.of [some (.ref 64), some (.int what)] (by decide +kernel) (Nat.le_of_ble_eq_true rfl) rfl ?_
  obtain ⟨⟨tTape, tCoins, tWares, tBuys, tSlates, tPlans, tBooked⟩, ⟨cTape, cCoins, cWares, cBuys, cSlates, cPlans, cBooked⟩, hW7, hW9, hL⟩ := id hW
  obtain ⟨⟨n0, b0, e0⟩, ⟨n1, b1, e1⟩, ⟨n2, b2, e2⟩, ⟨n3, b3, e3⟩, ⟨n4, b4, e4⟩, ⟨n5, b5, e5⟩, ⟨n6, b6, e6⟩, ⟨n7, b7, e7⟩, ⟨n9, b9, e9⟩⟩ := hR.k
  have k7 : cN s 7 = n7 := cN_of e7 (by omega)
  rw [k7] at tTape cTape
  have k0 : cN s 0 = n0 := cN_of e0 (by omega)
  rw [k0] at tCoins cCoins
  have k1 : cN s 1 = n1 := cN_of e1 (by omega)
  rw [k1] at tWares cWares
  have k3 : cN s 3 = n3 := cN_of e3 (by omega)
  rw [k3] at tBuys cBuys
  have k4 : cN s 4 = n4 := cN_of e4 (by omega)
  rw [k4] at tSlates cSlates
  have k5 : cN s 5 = n5 := cN_of e5 (by omega)
  rw [k5] at tPlans cPlans
  have k6 : cN s 6 = n6 := cN_of e6 (by omega)
  rw [k6] at tBooked cBooked
  refine x_iload_n dX10_told_0 rfl ?_
  rcases (show what = 0 ∨ what = 1 ∨ what = 2 ∨ what = 3 ∨ ¬ (0 ≤ what ∧ what ≤ 3) by grind) with rfl | rfl | rfl | rfl | hno
  · skip
    refine x_tableIn (off := 31) (tgt := 32) dX10_told_1 (by decide) (by decide) rfl rfl ?_
    refine x_aload_n dX10_told_32 rfl ?_
    refine y_getr dX10_told_33 F_C_12 (fxo_64 hx) rfl (fxp_64_0 hx) ?_
    refine y_geti dX10_told_36 F_C_128 (fxo_65 hx) rfl hW9 ?_
    refine x_ireturn dX10_told_39 rfl nb_int ?_
    exact ⟨I, by rw [told_s b1 e1 (by decide)]; rfl, rfl, xFrm.rf⟩
  · skip
    refine x_tableIn (off := 39) (tgt := 40) dX10_told_1 (by decide) (by decide) rfl rfl ?_
    refine x_aload_n dX10_told_40 rfl ?_
    refine y_getr dX10_told_41 F_C_12 (fxo_64 hx) rfl (fxp_64_0 hx) ?_
    refine x_callV (k2 := 0) (n2 := 0) dX10_told_44 LV_C_131 (m_World_top hx hL) rfl rfl (fxo_65 hx) rfl (Nat.le_of_ble_eq_true rfl) (Nat.le_of_ble_eq_true rfl) (Nat.le_of_ble_eq_true rfl) (Nat.le_of_ble_eq_true rfl) ?_
    rintro _ _ ⟨rfl, rfl⟩
    refine x_ireturn dX10_told_47 rfl nb_int ?_
    exact ⟨I, by rw [told_s b1 e1 (by decide)]; rfl, rfl, xFrm.rf⟩
  · skip
    refine x_tableIn (off := 47) (tgt := 48) dX10_told_1 (by decide) (by decide) rfl rfl ?_
    refine x_aload_n dX10_told_48 rfl ?_
    refine y_getr dX10_told_49 F_C_12 (fxo_64 hx) rfl (fxp_64_0 hx) ?_
    refine x_callV (k2 := 0) (n2 := 0) dX10_told_52 LV_C_134 (m_World_cheating hx hL) rfl rfl (fxo_65 hx) rfl (Nat.le_of_ble_eq_true rfl) (Nat.le_of_ble_eq_true rfl) (Nat.le_of_ble_eq_true rfl) (Nat.le_of_ble_eq_true rfl) ?_
    rintro _ _ ⟨rfl, rfl⟩
    refine x_ireturn dX10_told_55 rfl nb_int ?_
    exact ⟨I, by rw [told_s b1 e1 (by decide)]; rfl, rfl, xFrm.rf⟩
  · skip
    refine x_tableIn (off := 55) (tgt := 56) dX10_told_1 (by decide) (by decide) rfl rfl ?_
    refine x_aload_n dX10_told_56 rfl ?_
    refine y_getr dX10_told_57 F_C_50 (fxo_64 hx) rfl (fxp_64_5 hx) ?_
    refine x_callV (k2 := 0) (n2 := 0) dX10_told_60 LV_C_137 (m_Payer_openPurse hx hW hR) rfl rfl (fxo_109 hx) rfl (Nat.le_of_ble_eq_true rfl) (Nat.le_of_ble_eq_true rfl) (Nat.le_of_ble_eq_true rfl) (Nat.le_of_ble_eq_true rfl) ?_
    rintro _ _ ⟨I1, rfl, rfl, hF1, hpy⟩
    have hW1 := hW.fl hF1
    refine x_aload_n dX10_told_63 rfl ?_
    refine y_getr dX10_told_64 F_C_50 (fxo_64 hx) rfl (fxp_64_5 hx) ?_
    refine x_callV (k2 := 0) (n2 := 0) dX10_told_67 LV_C_140 (m_Payer_riches (I := I1) hx) rfl rfl (fxo_109 hx) rfl (Nat.le_of_ble_eq_true rfl) (Nat.le_of_ble_eq_true rfl) (Nat.le_of_ble_eq_true rfl) (Nat.le_of_ble_eq_true rfl) ?_
    rintro _ _ ⟨rfl, rfl⟩
    rw [rcP_e hR (fun c hc => (hpy c hc).1) (fun c hc => (hpy c hc).2.2) 4 (Nat.le_refl _), Nat.min_eq_right hR.c0.2]
    refine x_ireturn dX10_told_70 rfl nb_int ?_
    exact ⟨I1, by rw [told_s b1 e1 (by decide)]; rfl, rfl, hF1⟩
  · skip
    refine x_tableOut (tgt := 71) dX10_told_1 (tab_out (lo := 0) (hi := 3) hno) rfl ?_
    refine x_iload_n dX10_told_71 rfl ?_
    refine x_bipush (v := 10) dX10_told_72 (by decide) ?_
    refine x_icmp_lt (tgt := 112) dX10_told_74 rfl (fun c74 => ?_) (fun c74 => ?_)
    · skip
      refine x_iconst (v := (-1)) dX10_told_112 (by decide) ?_
      refine x_ireturn dX10_told_113 rfl nb_int ?_
      exact ⟨I, by rw [told_no b1 e1 hno (fun y => Int32.not_le.mpr c74 y.1)], rfl, xFrm.rf⟩
    · refine x_aload_n dX10_told_77 rfl ?_
      refine y_getr dX10_told_78 F_C_12 (fxo_64 hx) rfl (fxp_64_0 hx) ?_
      refine y_getr dX10_told_81 F_C_56 (fxo_65 hx) rfl (fxp_65_2 hx) ?_
      refine x_iload_n dX10_told_84 rfl ?_
      refine x_bipush (v := 10) dX10_told_85 (by decide) ?_
      refine x_isub dX10_told_87 ?_
      refine x_callV (k2 := 0) (n2 := 0) dX10_told_88 LV_C_113 (m_Table_has tWares) rfl rfl (fxo_70 hx) rfl (Nat.le_of_ble_eq_true rfl) (Nat.le_of_ble_eq_true rfl) (Nat.le_of_ble_eq_true rfl) (Nat.le_of_ble_eq_true rfl) ?_
      rintro _ _ ⟨rfl, rfl⟩
      refine x_if_eq (tgt := 112) dX10_told_91 rfl (fun c91 => ?_) (fun c91 => ?_)
      · skip
        refine x_iconst (v := (-1)) dX10_told_112 (by decide) ?_
        refine x_ireturn dX10_told_113 rfl nb_int ?_
        exact ⟨I, by rw [told_no b1 e1 hno (fun y => b_f c91 y.2)], rfl, xFrm.rf⟩
      · obtain ⟨z, hz, ez⟩ := i_2 (n := n1) (by omega) (b_t c91)
        refine x_aload_n dX10_told_94 rfl ?_
        refine y_getr dX10_told_95 F_C_12 (fxo_64 hx) rfl (fxp_64_0 hx) ?_
        refine y_getr dX10_told_98 F_C_56 (fxo_65 hx) rfl (fxp_65_2 hx) ?_
        refine x_iload_n dX10_told_101 rfl ?_
        refine x_bipush (v := 10) dX10_told_102 (by decide) ?_
        refine x_isub dX10_told_104 ?_
        refine x_iconst (v := 0) dX10_told_105 (by decide) ?_
        rw [ez]
        refine x_callV (k2 := 0) (n2 := 0) dX10_told_106 LV_C_125 (m_Table_get tWares (x := nI z) (z := nI 0)) rfl rfl (fxo_70 hx) rfl (Nat.le_of_ble_eq_true rfl) (Nat.le_of_ble_eq_true rfl) (Nat.le_of_ble_eq_true rfl) (Nat.le_of_ble_eq_true rfl) ?_
        rintro _ _ ⟨rfl, rfl⟩
        rw [xTg_in (r := z) (k := 0) (by omega) (by omega) (by omega) (by omega), cWares z hz]
        skip
        refine x_goto (tgt := 113) dX10_told_109 rfl ?_
        refine x_ireturn dX10_told_113 rfl nb_int ?_
        exact ⟨I, by unfold a_told; rw [e1, if_pos ((w10 b1).mpr ⟨Int32.not_lt.mp c74, b_t c91⟩), ez, nI_clamp (by omega)], rfl, xFrm.rf⟩

set_option maxHeartbeats 4000000 in
set_option maxRecDepth 100000 in
theorem m_C_mean {g : xG} {nx : Nat} {sh : Nat → Nat × Nat} {P : Nat → Nat → Option Nat} {I : Nat → Nat → Int32} (hx : xFx sh P) {s : Nat → Int32} (hW : xWN nx sh P I s) (hR : RI s) {part : Int32} : xMet g Y_C_mean 6 0 0 [.ref 64, .int part] (nx, sh, P, I) (fun r σ => ∃ I1 : Nat → Nat → Int32, r = some (.long (a_mean s part)) ∧ σ = (nx, sh, P, I1) ∧ xFrm [80, 110, 111] I I1) := by
  refine xMet.of [some (.ref 64), some (.int part)] (by decide +kernel) (Nat.le_of_ble_eq_true rfl) rfl ?_
  obtain ⟨⟨tTape, tCoins, tWares, tBuys, tSlates, tPlans, tBooked⟩, ⟨cTape, cCoins, cWares, cBuys, cSlates, cPlans, cBooked⟩, hW7, hW9, hL⟩ := id hW
  obtain ⟨⟨n0, b0, e0⟩, ⟨n1, b1, e1⟩, ⟨n2, b2, e2⟩, ⟨n3, b3, e3⟩, ⟨n4, b4, e4⟩, ⟨n5, b5, e5⟩, ⟨n6, b6, e6⟩, ⟨n7, b7, e7⟩, ⟨n9, b9, e9⟩⟩ := hR.k
  have k7 : cN s 7 = n7 := cN_of e7 (by omega)
  rw [k7] at tTape cTape
  have k0 : cN s 0 = n0 := cN_of e0 (by omega)
  rw [k0] at tCoins cCoins
  have k1 : cN s 1 = n1 := cN_of e1 (by omega)
  rw [k1] at tWares cWares
  have k3 : cN s 3 = n3 := cN_of e3 (by omega)
  rw [k3] at tBuys cBuys
  have k4 : cN s 4 = n4 := cN_of e4 (by omega)
  rw [k4] at tSlates cSlates
  have k5 : cN s 5 = n5 := cN_of e5 (by omega)
  rw [k5] at tPlans cPlans
  have k6 : cN s 6 = n6 := cN_of e6 (by omega)
  rw [k6] at tBooked cBooked
  refine x_iload_n dX10_mean_0 rfl ?_
  refine x_iconst (v := 0) dX10_mean_1 (by decide) ?_
  refine x_iconst (v := 1) dX10_mean_2 (by decide) ?_
  refine x_callS (k2 := 0) (n2 := 0) dX10_mean_3 LS_C_71 m_C_isOutside rfl rfl (Nat.le_of_ble_eq_true rfl) (Nat.le_of_ble_eq_true rfl) (Nat.le_of_ble_eq_true rfl) (Nat.le_of_ble_eq_true rfl) ?_
  rintro _ _ ⟨rfl, rfl⟩
  refine x_if_eq (tgt := 13) dX10_mean_6 rfl (fun c6 => ?_) (fun c6 => ?_)
  · refine x_aload_n dX10_mean_13 rfl ?_
    refine y_getr dX10_mean_14 F_C_50 (fxo_64 hx) rfl (fxp_64_5 hx) ?_
    refine x_callV (k2 := 0) (n2 := 0) dX10_mean_17 LV_C_137 (m_Payer_openPurse hx hW hR) rfl rfl (fxo_109 hx) rfl (Nat.le_of_ble_eq_true rfl) (Nat.le_of_ble_eq_true rfl) (Nat.le_of_ble_eq_true rfl) (Nat.le_of_ble_eq_true rfl) ?_
    rintro _ _ ⟨I1, rfl, rfl, hF1, hpy⟩
    have hW1 := hW.fl hF1
    refine x_aload_n dX10_mean_20 rfl ?_
    refine y_getr dX10_mean_21 F_C_50 (fxo_64 hx) rfl (fxp_64_5 hx) ?_
    refine x_callV (k2 := 0) (n2 := 0) dX10_mean_24 LV_C_140 (m_Payer_riches (I := I1) hx) rfl rfl (fxo_109 hx) rfl (Nat.le_of_ble_eq_true rfl) (Nat.le_of_ble_eq_true rfl) (Nat.le_of_ble_eq_true rfl) (Nat.le_of_ble_eq_true rfl) ?_
    rintro _ _ ⟨rfl, rfl⟩
    rw [rcP_e hR (fun c hc => (hpy c hc).1) (fun c hc => (hpy c hc).2.2) 4 (Nat.le_refl _), Nat.min_eq_right hR.c0.2]
    refine x_aload_n dX10_mean_27 rfl ?_
    refine x_callV (k2 := 0) (n2 := 0) dX10_mean_28 LV_C_215 (m_C_coinsInPurse (I := I1) hx hW1 hR) rfl rfl (fxo_64 hx) rfl (Nat.le_of_ble_eq_true rfl) (Nat.le_of_ble_eq_true rfl) (Nat.le_of_ble_eq_true rfl) (Nat.le_of_ble_eq_true rfl) ?_
    rintro _ _ ⟨rfl, rfl⟩
    obtain ⟨u, hu1, hu⟩ := rcS_bd hR (cN s 0) (Nat.le_refl _)
    obtain ⟨l, hl1, hl⟩ := puS_bd hR (cN s 0) (Nat.le_refl _)
    rw [hu, hl]
    refine x_iload_n dX10_mean_31 rfl ?_
    refine x_callS (k2 := 0) (n2 := 0) dX10_mean_32 LS_C_167 (m_C_fraction (u := u) (l := l) (by omega) (by omega)) rfl rfl (Nat.le_of_ble_eq_true rfl) (Nat.le_of_ble_eq_true rfl) (Nat.le_of_ble_eq_true rfl) (Nat.le_of_ble_eq_true rfl) ?_
    rintro _ _ ⟨rfl, rfl⟩
    rw [fr_z (by omega) (by omega), ← hu, ← hl]
    refine x_lreturn dX10_mean_35 rfl ?_
    refine ⟨I1, ?_, rfl, hF1⟩
    unfold a_mean
    by_cases hz : puS s (cN s 0) = 0
    · rw [if_pos hz, if_neg (fun y => y.2 hz)]
    · rw [if_neg hz, if_pos ⟨o_t c6, hz⟩]
  · refine x_ldc2 dX10_mean_9 K_C_162 ?_
    refine x_lreturn dX10_mean_12 rfl ?_
    exact ⟨I, by unfold a_mean; rw [if_neg (fun y => o_f c6 y.1)], rfl, xFrm.rf⟩
