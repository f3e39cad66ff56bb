/-! the class: questions -/
theorem xWN.fl {nx : Nat} {sh : Nat → Nat × Nat} {P : Nat → Nat → Option Nat} {I I' : Nat → Nat → Int32} {s : Nat → Int32} {l : List Nat} (h : xWN nx sh P I s) (hF : xFrm l I I') (hl : ∀ b ∈ l, 80 ≤ b ∧ b < 144 := by decide) : xWN nx sh P I' s := h.fr (fun a ha => hF a (fun z => by have := hl a z; omega))
theorem tab_out {x : Int32} {lo hi : Int32} (h : ¬ (lo ≤ x ∧ x ≤ hi)) : x.toInt < lo.toInt ∨ hi.toInt < x.toInt := by
  rw [Int32.le_iff_toInt_le, Int32.le_iff_toInt_le] at h
  omega
theorem i_gt {x : Int32} {n : Nat} (hn : n < 1000) (h : nI n < x) : nI (n + 1) ≤ x := by
  have h1 := Int32.lt_iff_toInt_lt.mp h
  rw [nI_toInt (by omega)] at h1
  exact Int32.le_iff_toInt_le.mpr (by rw [nI_toInt (by omega)]; omega)
theorem cc4 {s : Nat → Int32} {f : Nat → Int32} {q : Nat} (h : f (q * 8 + 0) = s (10 + q) ∧ f (q * 8 + 1) = s (14 + q) ∧ f (q * 8 + 2) = s (18 + q) ∧ f (q * 8 + 3) = s (22 + q) ∧ ∀ k, k < 4 → f (q * 8 + (4 + k)) = s (26 + 4 * q + k)) : ∀ z, z < 4 → f (q * 8 + z) = s (10 + 4 * z + q)
  | 0, _ => h.1
  | 1, _ => h.2.1
  | 2, _ => h.2.2.1
  | 3, _ => h.2.2.2.1
theorem slB_le {s : Nat → Int32} {b : Int32} {i : Nat} : ∀ d, slB s b (i + d) = true → slB s b i = true
  | 0, h => h
  | d + 1, h => slB_le d (slB_s.mp h).1
theorem slB_no {s : Nat → Int32} {b : Int32} {i n : Nat} (hi : i < n) (h : ¬ (s (77 + i) < b ∧ s (83 + i) < b ∧ s (89 + i) = b * s (77 + i) + s (83 + i))) : slB s b n = false := by
  cases hz : slB s b n
  · rfl
  · exfalso
    have h1 : slB s b (i + 1 + (n - (i + 1))) = true := by rw [show i + 1 + (n - (i + 1)) = n by omega]; exact hz
    exact h (slB_s.mp (slB_le _ h1)).2
theorem lst_s {s : Nat → Int32} {c : Nat} : ∀ m k, laS s c (m + 1) k = if wo s c (s (18 + c)) (s (22 + c)) (s 9 + nI k) < wc s c then nI k else laS s c m (k + 1) := fun _ _ => rfl
theorem lkS_s {s : Nat → Int32} : ∀ m k, lkS' s (m + 1) k = if wc s (cN s (101 + k)) = s (109 + k) then lkS' s m (k + 1) else nI k := fun _ _ => rfl
set_option maxHeartbeats 4000000 in
set_option maxRecDepth 100000 in
theorem m_C_of {g : xG} {nx : Nat} {sh : Nat → Nat × Nat} {P : Nat → Nat → Option Nat} {I : Nat → Nat → Int32} (hx : xFx sh P) {s : Nat → Int32} (hW : xWN nx sh P I s) (hR : RI s) {c what : Int32} : xMet g Y_C_of 6 0 0 [.ref 64, .int c, .int what] (nx, sh, P, I) (fun r σ => ∃ I1 : Nat → Nat → Int32, r = some (.int (a_of s c what)) ∧ σ = (nx, sh, P, I1) ∧ xFrm [80] I I1) := by
  refine xMet.of [some (.ref 64), some (.int c), some (.int what)] (by decide +kernel) (Nat.le_of_ble_eq_true rfl) rfl ?_
  obtain ⟨⟨tTape, tCoins, tWares, tBuys, tSlates, tPlans, tBooked⟩, ⟨cTape, cCoins, cWares, cBuys, cSlates, cPlans, cBooked⟩, hW7, hW9, hL⟩ := id hW
  obtain ⟨⟨n0, b0, e0⟩, ⟨n1, b1, e1⟩, ⟨n2, b2, e2⟩, ⟨n3, b3, e3⟩, ⟨n4, b4, e4⟩, ⟨n5, b5, e5⟩, ⟨n6, b6, e6⟩, ⟨n7, b7, e7⟩, ⟨n9, b9, e9⟩⟩ := hR.k
  have k7 : cN s 7 = n7 := cN_of e7 (by omega)
  rw [k7] at tTape cTape
  have k0 : cN s 0 = n0 := cN_of e0 (by omega)
  rw [k0] at tCoins cCoins
  have k1 : cN s 1 = n1 := cN_of e1 (by omega)
  rw [k1] at tWares cWares
  have k3 : cN s 3 = n3 := cN_of e3 (by omega)
  rw [k3] at tBuys cBuys
  have k4 : cN s 4 = n4 := cN_of e4 (by omega)
  rw [k4] at tSlates cSlates
  have k5 : cN s 5 = n5 := cN_of e5 (by omega)
  rw [k5] at tPlans cPlans
  have k6 : cN s 6 = n6 := cN_of e6 (by omega)
  rw [k6] at tBooked cBooked
  refine x_aload_n dX10_of_0 rfl ?_
  refine y_getr dX10_of_1 F_C_12 (fxo_64 hx) rfl (fxp_64_0 hx) ?_
  refine y_getr dX10_of_4 F_C_110 (fxo_65 hx) rfl (fxp_65_1 hx) ?_
  refine x_iload_n dX10_of_7 rfl ?_
  refine x_callV (k2 := 0) (n2 := 0) dX10_of_8 LV_C_113 (m_Table_has tCoins) rfl rfl (fxo_68 hx) rfl (Nat.le_of_ble_eq_true rfl) (Nat.le_of_ble_eq_true rfl) (Nat.le_of_ble_eq_true rfl) (Nat.le_of_ble_eq_true rfl) ?_
  rintro _ _ ⟨rfl, rfl⟩
  refine x_if_ne (tgt := 16) dX10_of_11 rfl (fun c11 => ?_) (fun c11 => ?_)
  · obtain ⟨q, hq, rfl⟩ := i_2 (n := n0) (by omega) (b_t c11)
    have hqc : q < cN s 0 := by rw [k0]; exact hq
    refine x_iload_n dX10_of_16 rfl ?_
    refine x_iconst (v := 4) dX10_of_17 (by decide) ?_
    refine x_icmp_ne (tgt := 30) dX10_of_18 rfl (fun c18 => ?_) (fun c18 => ?_)
    · refine x_iload_n dX10_of_30 rfl ?_
      refine x_bipush (v := 10) dX10_of_31 (by decide) ?_
      refine x_icmp_le (tgt := 55) dX10_of_33 rfl (fun c33 => ?_) (fun c33 => ?_)
      · refine x_iload_n dX10_of_55 rfl ?_
        refine x_iconst (v := 0) dX10_of_56 (by decide) ?_
        refine x_iconst (v := 3) dX10_of_57 (by decide) ?_
        refine x_callS (k2 := 0) (n2 := 0) dX10_of_58 LS_C_71 m_C_isOutside rfl rfl (Nat.le_of_ble_eq_true rfl) (Nat.le_of_ble_eq_true rfl) (Nat.le_of_ble_eq_true rfl) (Nat.le_of_ble_eq_true rfl) ?_
        rintro _ _ ⟨rfl, rfl⟩
        refine x_if_eq (tgt := 68) dX10_of_61 rfl (fun c61 => ?_) (fun c61 => ?_)
        · obtain ⟨z, hz0, hz3, hz⟩ := i_btw (x := what) (a := 0) (b := 3) (by decide) (o_t c61)
          subst hz
          refine x_aload_n dX10_of_68 rfl ?_
          refine y_getr dX10_of_69 F_C_12 (fxo_64 hx) rfl (fxp_64_0 hx) ?_
          refine y_getr dX10_of_72 F_C_110 (fxo_65 hx) rfl (fxp_65_1 hx) ?_
          refine x_iload_n dX10_of_75 rfl ?_
          refine x_iload_n dX10_of_76 rfl ?_
          refine x_callV (k2 := 0) (n2 := 0) dX10_of_77 LV_C_125 (m_Table_get tCoins (x := nI q) (z := nI z)) rfl rfl (fxo_68 hx) rfl (Nat.le_of_ble_eq_true rfl) (Nat.le_of_ble_eq_true rfl) (Nat.le_of_ble_eq_true rfl) (Nat.le_of_ble_eq_true rfl) ?_
          rintro _ _ ⟨rfl, rfl⟩
          rw [xTg_in (r := q) (k := z) (by omega) (by omega) (by omega) (by omega), cc4 (cCoins q hq) z (by omega)]
          refine x_ireturn dX10_of_80 rfl nb_int ?_
          first
          | (have h9 := hn2; exact ⟨I, by unfold a_of; rw [if_neg (fun y => h9 y.2)], rfl, xFrm.rf⟩)
          | exact ⟨I, by unfold a_of; rw [if_pos ⟨(show 0 ≤ nI q ∧ nI q < s 0 from by rw [e0]; exact b_t c11), Or.inl ⟨nI_0le (by omega), nI_le (b := 4) (by omega) (by decide)⟩⟩, if_pos (show nI z < (4 : Int32) from nI_lt (b := 4) (by omega) (by decide)), nI_clamp (by omega), nI_clamp (by omega)], rfl, xFrm.rf⟩
        · have hno : ¬ (0 ≤ what ∧ what ≤ 3) := o_f c61
          have hn2 : ¬ ((0 ≤ what ∧ what ≤ 4) ∨ (11 ≤ what ∧ what ≤ 19)) := by
            rintro (h9 | h9)
            · obtain ⟨z, hz0, hz3, hz⟩ := i_btw (x := what) (a := 0) (b := 4) (by decide) h9
              have : ¬ z = 4 := fun y => c18 (by rw [hz, y]; rfl)
              exact hno ⟨by rw [hz]; exact nI_0le (by omega), by rw [hz]; exact nI_le (b := 3) (by omega) (by decide)⟩
            · first | exact absurd c33 (Int32.not_le.mpr (Int32.lt_of_lt_of_le (by decide) h9.1)) | exact absurd h9.2 (Int32.not_le.mpr c39)
          refine x_iconst (v := (-1)) dX10_of_64 (by decide) ?_
          refine x_goto (tgt := 80) dX10_of_65 rfl ?_
          refine x_ireturn dX10_of_80 rfl nb_int ?_
          first
          | (have h9 := hn2; exact ⟨I, by unfold a_of; rw [if_neg (fun y => h9 y.2)], rfl, xFrm.rf⟩)
          | exact ⟨I, by unfold a_of; rw [if_pos ⟨(show 0 ≤ nI q ∧ nI q < s 0 from by rw [e0]; exact b_t c11), Or.inl ⟨nI_0le (by omega), nI_le (b := 4) (by omega) (by decide)⟩⟩, if_pos (show nI z < (4 : Int32) from nI_lt (b := 4) (by omega) (by decide)), nI_clamp (by omega), nI_clamp (by omega)], rfl, xFrm.rf⟩
      · refine x_iload_n dX10_of_36 rfl ?_
        refine x_bipush (v := 19) dX10_of_37 (by decide) ?_
        refine x_icmp_gt (tgt := 55) dX10_of_39 rfl (fun c39 => ?_) (fun c39 => ?_)
        · refine x_iload_n dX10_of_55 rfl ?_
          refine x_iconst (v := 0) dX10_of_56 (by decide) ?_
          refine x_iconst (v := 3) dX10_of_57 (by decide) ?_
          refine x_callS (k2 := 0) (n2 := 0) dX10_of_58 LS_C_71 m_C_isOutside rfl rfl (Nat.le_of_ble_eq_true rfl) (Nat.le_of_ble_eq_true rfl) (Nat.le_of_ble_eq_true rfl) (Nat.le_of_ble_eq_true rfl) ?_
          rintro _ _ ⟨rfl, rfl⟩
          refine x_if_eq (tgt := 68) dX10_of_61 rfl (fun c61 => ?_) (fun c61 => ?_)
          · obtain ⟨z, hz0, hz3, hz⟩ := i_btw (x := what) (a := 0) (b := 3) (by decide) (o_t c61)
            subst hz
            refine x_aload_n dX10_of_68 rfl ?_
            refine y_getr dX10_of_69 F_C_12 (fxo_64 hx) rfl (fxp_64_0 hx) ?_
            refine y_getr dX10_of_72 F_C_110 (fxo_65 hx) rfl (fxp_65_1 hx) ?_
            refine x_iload_n dX10_of_75 rfl ?_
            refine x_iload_n dX10_of_76 rfl ?_
            refine x_callV (k2 := 0) (n2 := 0) dX10_of_77 LV_C_125 (m_Table_get tCoins (x := nI q) (z := nI z)) rfl rfl (fxo_68 hx) rfl (Nat.le_of_ble_eq_true rfl) (Nat.le_of_ble_eq_true rfl) (Nat.le_of_ble_eq_true rfl) (Nat.le_of_ble_eq_true rfl) ?_
            rintro _ _ ⟨rfl, rfl⟩
            rw [xTg_in (r := q) (k := z) (by omega) (by omega) (by omega) (by omega), cc4 (cCoins q hq) z (by omega)]
            refine x_ireturn dX10_of_80 rfl nb_int ?_
            first
            | (have h9 := hn2; exact ⟨I, by unfold a_of; rw [if_neg (fun y => h9 y.2)], rfl, xFrm.rf⟩)
            | exact ⟨I, by unfold a_of; rw [if_pos ⟨(show 0 ≤ nI q ∧ nI q < s 0 from by rw [e0]; exact b_t c11), Or.inl ⟨nI_0le (by omega), nI_le (b := 4) (by omega) (by decide)⟩⟩, if_pos (show nI z < (4 : Int32) from nI_lt (b := 4) (by omega) (by decide)), nI_clamp (by omega), nI_clamp (by omega)], rfl, xFrm.rf⟩
          · have hno : ¬ (0 ≤ what ∧ what ≤ 3) := o_f c61
            have hn2 : ¬ ((0 ≤ what ∧ what ≤ 4) ∨ (11 ≤ what ∧ what ≤ 19)) := by
              rintro (h9 | h9)
              · obtain ⟨z, hz0, hz3, hz⟩ := i_btw (x := what) (a := 0) (b := 4) (by decide) h9
                have : ¬ z = 4 := fun y => c18 (by rw [hz, y]; rfl)
                exact hno ⟨by rw [hz]; exact nI_0le (by omega), by rw [hz]; exact nI_le (b := 3) (by omega) (by decide)⟩
              · first | exact absurd c33 (Int32.not_le.mpr (Int32.lt_of_lt_of_le (by decide) h9.1)) | exact absurd h9.2 (Int32.not_le.mpr c39)
            refine x_iconst (v := (-1)) dX10_of_64 (by decide) ?_
            refine x_goto (tgt := 80) dX10_of_65 rfl ?_
            refine x_ireturn dX10_of_80 rfl nb_int ?_
            first
            | (have h9 := hn2; exact ⟨I, by unfold a_of; rw [if_neg (fun y => h9 y.2)], rfl, xFrm.rf⟩)
            | exact ⟨I, by unfold a_of; rw [if_pos ⟨(show 0 ≤ nI q ∧ nI q < s 0 from by rw [e0]; exact b_t c11), Or.inl ⟨nI_0le (by omega), nI_le (b := 4) (by omega) (by decide)⟩⟩, if_pos (show nI z < (4 : Int32) from nI_lt (b := 4) (by omega) (by decide)), nI_clamp (by omega), nI_clamp (by omega)], rfl, xFrm.rf⟩
        · refine x_aload_n dX10_of_42 rfl ?_
          refine y_getr dX10_of_43 F_C_12 (fxo_64 hx) rfl (fxp_64_0 hx) ?_
          refine x_iload_n dX10_of_46 rfl ?_
          refine x_iload_n dX10_of_47 rfl ?_
          refine x_bipush (v := 10) dX10_of_48 (by decide) ?_
          refine x_isub dX10_of_50 ?_
          obtain ⟨w, hw1, hw2, hw⟩ := i_btw (x := what) (a := 11) (b := 19) (by decide) ⟨i_gt (n := 10) (by decide) (Int32.not_le.mp c33), Int32.not_lt.mp c39⟩
          have hb : what - 10 = nI (w - 10) := by rw [hw, show (10 : Int32) = nI 10 from rfl, pk_sub (by omega)]
          refine x_callV (k2 := 0) (n2 := 0) dX10_of_51 LV_C_121 (m_World_worthWith hx hW hR hqc hb (by omega)) rfl rfl (fxo_65 hx) rfl (Nat.le_of_ble_eq_true rfl) (Nat.le_of_ble_eq_true rfl) (Nat.le_of_ble_eq_true rfl) (Nat.le_of_ble_eq_true rfl) ?_
          rintro _ _ ⟨F, rfl, rfl⟩
          refine x_ireturn dX10_of_54 rfl nb_int ?_
          have h11 : 11 ≤ what ∧ what ≤ 19 := by rw [hw]; exact ⟨nI_le (a := 11) hw1 (by omega), nI_le (b := 19) hw2 (by decide)⟩
          have h4 : ¬ what < 4 := by rw [hw]; exact fun z => absurd ((nI_ltI (b := 4) (by omega) (by decide)).mp z) (by omega)
          exact ⟨_, by unfold a_of; rw [if_pos ⟨(show 0 ≤ nI q ∧ nI q < s 0 from by rw [e0]; exact b_t c11), Or.inr h11⟩, if_neg h4, if_neg c18, nI_clamp (by omega)], rfl, xFrv xFrm.rf⟩
    · refine x_aload_n dX10_of_21 rfl ?_
      refine y_getr dX10_of_22 F_C_12 (fxo_64 hx) rfl (fxp_64_0 hx) ?_
      refine x_iload_n dX10_of_25 rfl ?_
      refine x_callV (k2 := 0) (n2 := 0) dX10_of_26 LV_C_117 (m_World_worth hx hW hR hqc) rfl rfl (fxo_65 hx) rfl (Nat.le_of_ble_eq_true rfl) (Nat.le_of_ble_eq_true rfl) (Nat.le_of_ble_eq_true rfl) (Nat.le_of_ble_eq_true rfl) ?_
      rintro _ _ ⟨F, rfl, rfl⟩
      refine x_ireturn dX10_of_29 rfl nb_int ?_
      exact ⟨_, by unfold a_of; rw [if_pos ⟨(show 0 ≤ nI q ∧ nI q < s 0 from by rw [e0]; exact b_t c11), Or.inl (by rw [c18]; decide)⟩, if_neg (by rw [c18]; decide), if_pos c18, nI_clamp (by omega)], rfl, xFrv xFrm.rf⟩
  · refine x_iconst (v := (-1)) dX10_of_14 (by decide) ?_
    refine x_ireturn dX10_of_15 rfl nb_int ?_
    exact ⟨I, by unfold a_of; rw [if_neg (fun y => (show ¬ (0 ≤ c ∧ c < s 0) from by rw [e0]; exact b_f c11) y.1)], rfl, xFrm.rf⟩

set_option maxHeartbeats 4000000 in
set_option maxRecDepth 100000 in
theorem m_Acts_howManyRan {g : xG} {nx : Nat} {sh : Nat → Nat × Nat} {P : Nat → Nat → Option Nat} {I : Nat → Nat → Int32} (hx : xFx sh P) : xMet g Y_Acts_howManyRan 0 0 0 [.ref 125] (nx, sh, P, I) (fun r σ => r = some (.int (I 125 1)) ∧ σ = (nx, sh, P, I)) := by
  refine xMet.of [some (.ref 125)] (by decide +kernel) (Nat.le_of_ble_eq_true rfl) rfl ?_
  refine x_aload_n dX0_howManyRan_0 rfl ?_
  refine y_geti dX0_howManyRan_1 F_Acts_15 (fxo_125 hx) rfl rfl ?_
  refine x_ireturn dX0_howManyRan_4 rfl nb_int ?_
  exact ⟨rfl, rfl⟩

set_option maxHeartbeats 4000000 in
set_option maxRecDepth 100000 in
theorem m_C_count {g : xG} {nx : Nat} {sh : Nat → Nat × Nat} {P : Nat → Nat → Option Nat} {I : Nat → Nat → Int32} (hx : xFx sh P) {s : Nat → Int32} (hW : xWN nx sh P I s) (hR : RI s) {what : Int32} : xMet g Y_C_count 1 0 0 [.ref 64, .int what] (nx, sh, P, I) (fun r σ => r = some (.int (a_count s (I 125 1) what)) ∧ σ = (nx, sh, P, I)) := by
  refine xMet.of [some (.ref 64), some (.int what)] (by decide +kernel) (Nat.le_of_ble_eq_true rfl) rfl ?_
  obtain ⟨⟨tTape, tCoins, tWares, tBuys, tSlates, tPlans, tBooked⟩, ⟨cTape, cCoins, cWares, cBuys, cSlates, cPlans, cBooked⟩, hW7, hW9, hL⟩ := id hW
  obtain ⟨⟨n0, b0, e0⟩, ⟨n1, b1, e1⟩, ⟨n2, b2, e2⟩, ⟨n3, b3, e3⟩, ⟨n4, b4, e4⟩, ⟨n5, b5, e5⟩, ⟨n6, b6, e6⟩, ⟨n7, b7, e7⟩, ⟨n9, b9, e9⟩⟩ := hR.k
  have k7 : cN s 7 = n7 := cN_of e7 (by omega)
  rw [k7] at tTape cTape
  have k0 : cN s 0 = n0 := cN_of e0 (by omega)
  rw [k0] at tCoins cCoins
  have k1 : cN s 1 = n1 := cN_of e1 (by omega)
  rw [k1] at tWares cWares
  have k3 : cN s 3 = n3 := cN_of e3 (by omega)
  rw [k3] at tBuys cBuys
  have k4 : cN s 4 = n4 := cN_of e4 (by omega)
  rw [k4] at tSlates cSlates
  have k5 : cN s 5 = n5 := cN_of e5 (by omega)
  rw [k5] at tPlans cPlans
  have k6 : cN s 6 = n6 := cN_of e6 (by omega)
  rw [k6] at tBooked cBooked
  refine x_iload_n dX10_count_0 rfl ?_
  rcases (show what = 0 ∨ what = 1 ∨ what = 2 ∨ what = 3 ∨ what = 4 ∨ what = 5 ∨ what = 6 ∨ what = 7 ∨ what = 8 ∨ ¬ (0 ≤ what ∧ what ≤ 8) by grind) with rfl | rfl | rfl | rfl | rfl | rfl | rfl | rfl | rfl | hno
  · skip
    refine x_tableIn (off := 51) (tgt := 52) dX10_count_1 (by decide) (by decide) rfl rfl ?_
    refine x_aload_n dX10_count_52 rfl ?_
    refine y_getr dX10_count_53 F_C_12 (fxo_64 hx) rfl (fxp_64_0 hx) ?_
    refine y_getr dX10_count_56 F_C_110 (fxo_65 hx) rfl (fxp_65_1 hx) ?_
    refine x_callV (k2 := 0) (n2 := 0) dX10_count_59 LV_C_89 (m_Table_rows tCoins) rfl rfl (fxo_68 hx) rfl (Nat.le_of_ble_eq_true rfl) (Nat.le_of_ble_eq_true rfl) (Nat.le_of_ble_eq_true rfl) (Nat.le_of_ble_eq_true rfl) ?_
    rintro _ _ ⟨rfl, rfl⟩
    refine x_ireturn dX10_count_62 rfl nb_int ?_
    exact ⟨by unfold a_count; rw [if_neg (by decide), if_pos (by decide)]; show _ = some (Value.int (s 0)); rw [e0], rfl⟩
  · skip
    refine x_tableIn (off := 62) (tgt := 63) dX10_count_1 (by decide) (by decide) rfl rfl ?_
    refine x_aload_n dX10_count_63 rfl ?_
    refine y_getr dX10_count_64 F_C_12 (fxo_64 hx) rfl (fxp_64_0 hx) ?_
    refine y_getr dX10_count_67 F_C_56 (fxo_65 hx) rfl (fxp_65_2 hx) ?_
    refine x_callV (k2 := 0) (n2 := 0) dX10_count_70 LV_C_89 (m_Table_rows tWares) rfl rfl (fxo_70 hx) rfl (Nat.le_of_ble_eq_true rfl) (Nat.le_of_ble_eq_true rfl) (Nat.le_of_ble_eq_true rfl) (Nat.le_of_ble_eq_true rfl) ?_
    rintro _ _ ⟨rfl, rfl⟩
    refine x_ireturn dX10_count_73 rfl nb_int ?_
    exact ⟨by unfold a_count; rw [if_neg (by decide), if_pos (by decide)]; show _ = some (Value.int (s 1)); rw [e1], rfl⟩
  · skip
    refine x_tableIn (off := 73) (tgt := 74) dX10_count_1 (by decide) (by decide) rfl rfl ?_
    refine x_aload_n dX10_count_74 rfl ?_
    refine y_getr dX10_count_75 F_C_12 (fxo_64 hx) rfl (fxp_64_0 hx) ?_
    refine y_geti dX10_count_78 F_C_92 (fxo_65 hx) rfl hW7 ?_
    refine x_ireturn dX10_count_81 rfl nb_int ?_
    exact ⟨by unfold a_count; rw [if_neg (by decide), if_pos (by decide)]; rfl, rfl⟩
  · skip
    refine x_tableIn (off := 81) (tgt := 82) dX10_count_1 (by decide) (by decide) rfl rfl ?_
    refine x_aload_n dX10_count_82 rfl ?_
    refine y_getr dX10_count_83 F_C_12 (fxo_64 hx) rfl (fxp_64_0 hx) ?_
    refine y_getr dX10_count_86 F_C_143 (fxo_65 hx) rfl (fxp_65_3 hx) ?_
    refine x_callV (k2 := 0) (n2 := 0) dX10_count_89 LV_C_89 (m_Table_rows tBuys) rfl rfl (fxo_72 hx) rfl (Nat.le_of_ble_eq_true rfl) (Nat.le_of_ble_eq_true rfl) (Nat.le_of_ble_eq_true rfl) (Nat.le_of_ble_eq_true rfl) ?_
    rintro _ _ ⟨rfl, rfl⟩
    refine x_ireturn dX10_count_92 rfl nb_int ?_
    exact ⟨by unfold a_count; rw [if_neg (by decide), if_pos (by decide)]; show _ = some (Value.int (s 3)); rw [e3], rfl⟩
  · skip
    refine x_tableIn (off := 92) (tgt := 93) dX10_count_1 (by decide) (by decide) rfl rfl ?_
    refine x_aload_n dX10_count_93 rfl ?_
    refine y_getr dX10_count_94 F_C_12 (fxo_64 hx) rfl (fxp_64_0 hx) ?_
    refine y_getr dX10_count_97 F_C_209 (fxo_65 hx) rfl (fxp_65_4 hx) ?_
    refine x_callV (k2 := 0) (n2 := 0) dX10_count_100 LV_C_89 (m_Table_rows tSlates) rfl rfl (fxo_74 hx) rfl (Nat.le_of_ble_eq_true rfl) (Nat.le_of_ble_eq_true rfl) (Nat.le_of_ble_eq_true rfl) (Nat.le_of_ble_eq_true rfl) ?_
    rintro _ _ ⟨rfl, rfl⟩
    refine x_ireturn dX10_count_103 rfl nb_int ?_
    exact ⟨by unfold a_count; rw [if_neg (by decide), if_pos (by decide)]; show _ = some (Value.int (s 4)); rw [e4], rfl⟩
  · skip
    refine x_tableIn (off := 103) (tgt := 104) dX10_count_1 (by decide) (by decide) rfl rfl ?_
    refine x_aload_n dX10_count_104 rfl ?_
    refine y_getr dX10_count_105 F_C_12 (fxo_64 hx) rfl (fxp_64_0 hx) ?_
    refine y_getr dX10_count_108 F_C_222 (fxo_65 hx) rfl (fxp_65_5 hx) ?_
    refine x_callV (k2 := 0) (n2 := 0) dX10_count_111 LV_C_89 (m_Table_rows tPlans) rfl rfl (fxo_76 hx) rfl (Nat.le_of_ble_eq_true rfl) (Nat.le_of_ble_eq_true rfl) (Nat.le_of_ble_eq_true rfl) (Nat.le_of_ble_eq_true rfl) ?_
    rintro _ _ ⟨rfl, rfl⟩
    refine x_ireturn dX10_count_114 rfl nb_int ?_
    exact ⟨by unfold a_count; rw [if_neg (by decide), if_pos (by decide)]; show _ = some (Value.int (s 5)); rw [e5], rfl⟩
  · skip
    refine x_tableIn (off := 114) (tgt := 115) dX10_count_1 (by decide) (by decide) rfl rfl ?_
    refine x_aload_n dX10_count_115 rfl ?_
    refine y_getr dX10_count_116 F_C_12 (fxo_64 hx) rfl (fxp_64_0 hx) ?_
    refine y_getr dX10_count_119 F_C_228 (fxo_65 hx) rfl (fxp_65_6 hx) ?_
    refine x_callV (k2 := 0) (n2 := 0) dX10_count_122 LV_C_89 (m_Table_rows tBooked) rfl rfl (fxo_78 hx) rfl (Nat.le_of_ble_eq_true rfl) (Nat.le_of_ble_eq_true rfl) (Nat.le_of_ble_eq_true rfl) (Nat.le_of_ble_eq_true rfl) ?_
    rintro _ _ ⟨rfl, rfl⟩
    refine x_ireturn dX10_count_125 rfl nb_int ?_
    exact ⟨by unfold a_count; rw [if_neg (by decide), if_pos (by decide)]; show _ = some (Value.int (s 6)); rw [e6], rfl⟩
  · skip
    refine x_tableIn (off := 125) (tgt := 126) dX10_count_1 (by decide) (by decide) rfl rfl ?_
    refine x_aload_n dX10_count_126 rfl ?_
    refine y_getr dX10_count_127 F_C_12 (fxo_64 hx) rfl (fxp_64_0 hx) ?_
    refine y_getr dX10_count_130 F_C_27 (fxo_65 hx) rfl (fxp_65_0 hx) ?_
    refine x_callV (k2 := 0) (n2 := 0) dX10_count_133 LV_C_89 (m_Table_rows tTape) rfl rfl (fxo_66 hx) rfl (Nat.le_of_ble_eq_true rfl) (Nat.le_of_ble_eq_true rfl) (Nat.le_of_ble_eq_true rfl) (Nat.le_of_ble_eq_true rfl) ?_
    rintro _ _ ⟨rfl, rfl⟩
    refine x_ireturn dX10_count_136 rfl nb_int ?_
    exact ⟨by unfold a_count; rw [if_neg (by decide), if_pos (by decide)]; show _ = some (Value.int (s 7)); rw [e7], rfl⟩
  · skip
    refine x_tableIn (off := 136) (tgt := 137) dX10_count_1 (by decide) (by decide) rfl rfl ?_
    refine x_aload_n dX10_count_137 rfl ?_
    refine y_getr dX10_count_138 F_C_67 (fxo_64 hx) rfl (fxp_64_7 hx) ?_
    refine x_callV (k2 := 0) (n2 := 0) dX10_count_141 LV_C_254 (m_Acts_howManyRan hx) rfl rfl (fxo_125 hx) rfl (Nat.le_of_ble_eq_true rfl) (Nat.le_of_ble_eq_true rfl) (Nat.le_of_ble_eq_true rfl) (Nat.le_of_ble_eq_true rfl) ?_
    rintro _ _ ⟨rfl, rfl⟩
    refine x_ireturn dX10_count_144 rfl nb_int ?_
    exact ⟨by unfold a_count; rw [if_pos rfl], rfl⟩
  · skip
    refine x_tableOut (tgt := 145) dX10_count_1 (tab_out (lo := 0) (hi := 8) hno) rfl ?_
    refine x_iconst (v := (-1)) dX10_count_145 (by decide) ?_
    refine x_ireturn dX10_count_146 rfl nb_int ?_
    exact ⟨by unfold a_count; rw [if_neg (fun y => hno (by rw [y]; decide)), if_neg (fun y => hno ⟨y.1, Int32.le_trans y.2 (by decide)⟩)], rfl⟩

set_option maxHeartbeats 4000000 in
set_option maxRecDepth 100000 in
theorem m_C_areSlatesBy {g : xG} {nx : Nat} {sh : Nat → Nat × Nat} {P : Nat → Nat → Option Nat} {I : Nat → Nat → Int32} (hx : xFx sh P) {s : Nat → Int32} (hW : xWN nx sh P I s) (hR : RI s) {b : Int32} : xMet g Y_C_areSlatesBy 2 0 0 [.ref 64, .int b] (nx, sh, P, I) (fun r σ => r = some (.int (if slB s b (cN s 4) = true then 1 else 0)) ∧ σ = (nx, sh, P, I)) := by
  refine xMet.of [some (.ref 64), some (.int b), none, none, none] (by decide +kernel) (Nat.le_of_ble_eq_true rfl) rfl ?_
  obtain ⟨⟨tTape, tCoins, tWares, tBuys, tSlates, tPlans, tBooked⟩, ⟨cTape, cCoins, cWares, cBuys, cSlates, cPlans, cBooked⟩, hW7, hW9, hL⟩ := id hW
  obtain ⟨⟨n0, b0, e0⟩, ⟨n1, b1, e1⟩, ⟨n2, b2, e2⟩, ⟨n3, b3, e3⟩, ⟨n4, b4, e4⟩, ⟨n5, b5, e5⟩, ⟨n6, b6, e6⟩, ⟨n7, b7, e7⟩, ⟨n9, b9, e9⟩⟩ := hR.k
  have k7 : cN s 7 = n7 := cN_of e7 (by omega)
  rw [k7] at tTape cTape
  have k0 : cN s 0 = n0 := cN_of e0 (by omega)
  rw [k0] at tCoins cCoins
  have k1 : cN s 1 = n1 := cN_of e1 (by omega)
  rw [k1] at tWares cWares
  have k3 : cN s 3 = n3 := cN_of e3 (by omega)
  rw [k3] at tBuys cBuys
  have k4 : cN s 4 = n4 := cN_of e4 (by omega)
  rw [k4] at tSlates cSlates
  have k5 : cN s 5 = n5 := cN_of e5 (by omega)
  rw [k5] at tPlans cPlans
  have k6 : cN s 6 = n6 := cN_of e6 (by omega)
  rw [k6] at tBooked cBooked
  refine x_iconst (v := 0) dX10_areSlatesBy_0 (by decide) ?_
  refine x_istore_n dX10_areSlatesBy_1 (Nat.le_of_ble_eq_true rfl) ?_
  try simp only [xst, xst2, xclr, xset, xwide]
  have K2 : ∀ (fuel : Nat) (i : Nat) (v3 v4 : Option Value) (hi : i ≤ n4) (hs : slB s b i = true), n4 - i < fuel → xX g Y_C_areSlatesBy 2 0 0 (fun r σ => r = some (.int (if slB s b (cN s 4) = true then 1 else 0)) ∧ σ = (nx, sh, P, I)) 2 [some (.ref 64), some (.int b), some (.int (nI i)), v3, v4] [] (nx, sh, P, I) := by
    intro fuel
    induction fuel with
    | zero => intro i v3 v4 hi hs hm; exact absurd hm (Nat.not_lt_zero _)
    | succ fuel ih2 =>
      intro i v3 v4 hi hs hm
      refine x_iload_n dX10_areSlatesBy_2 rfl ?_
      refine x_aload_n dX10_areSlatesBy_3 rfl ?_
      refine y_getr dX10_areSlatesBy_4 F_C_12 (fxo_64 hx) rfl (fxp_64_0 hx) ?_
      refine y_getr dX10_areSlatesBy_7 F_C_209 (fxo_65 hx) rfl (fxp_65_4 hx) ?_
      refine x_callV (k2 := 0) (n2 := 0) dX10_areSlatesBy_10 LV_C_89 (m_Table_rows tSlates) rfl rfl (fxo_74 hx) rfl (Nat.le_of_ble_eq_true rfl) (Nat.le_of_ble_eq_true rfl) (Nat.le_of_ble_eq_true rfl) (Nat.le_of_ble_eq_true rfl) ?_
      rintro _ _ ⟨rfl, rfl⟩
      refine x_icmp_ge (tgt := 83) dX10_areSlatesBy_13 rfl (fun c13 => ?_) (fun c13 => ?_)
      · have hie : i = n4 := cge_t (by omega) hi c13
        refine x_iconst (v := 1) dX10_areSlatesBy_83 (by decide) ?_
        refine x_ireturn dX10_areSlatesBy_84 rfl rfl ?_
        exact ⟨by rw [k4, ← hie, hs]; rfl, rfl⟩
      · have him : i < n4 := cge_f (by omega) hi c13
        refine x_aload_n dX10_areSlatesBy_16 rfl ?_
        refine y_getr dX10_areSlatesBy_17 F_C_12 (fxo_64 hx) rfl (fxp_64_0 hx) ?_
        refine y_getr dX10_areSlatesBy_20 F_C_209 (fxo_65 hx) rfl (fxp_65_4 hx) ?_
        refine x_iload_n dX10_areSlatesBy_23 rfl ?_
        refine x_iconst (v := 0) dX10_areSlatesBy_24 (by decide) ?_
        refine x_callV (k2 := 0) (n2 := 0) dX10_areSlatesBy_25 LV_C_125 (m_Table_get tSlates (x := nI i) (z := nI 0)) rfl rfl (fxo_74 hx) rfl (Nat.le_of_ble_eq_true rfl) (Nat.le_of_ble_eq_true rfl) (Nat.le_of_ble_eq_true rfl) (Nat.le_of_ble_eq_true rfl) ?_
        rintro _ _ ⟨rfl, rfl⟩
        rw [xTg_in (r := i) (k := 0) (by omega) (by omega) (by omega) (by decide), (cSlates i him).1]
        refine x_istore_n dX10_areSlatesBy_28 (Nat.le_of_ble_eq_true rfl) ?_
        try simp only [xst, xst2, xclr, xset, xwide]
        refine x_aload_n dX10_areSlatesBy_29 rfl ?_
        refine y_getr dX10_areSlatesBy_30 F_C_12 (fxo_64 hx) rfl (fxp_64_0 hx) ?_
        refine y_getr dX10_areSlatesBy_33 F_C_209 (fxo_65 hx) rfl (fxp_65_4 hx) ?_
        refine x_iload_n dX10_areSlatesBy_36 rfl ?_
        refine x_iconst (v := 1) dX10_areSlatesBy_37 (by decide) ?_
        refine x_callV (k2 := 0) (n2 := 0) dX10_areSlatesBy_38 LV_C_125 (m_Table_get tSlates (x := nI i) (z := nI 1)) rfl rfl (fxo_74 hx) rfl (Nat.le_of_ble_eq_true rfl) (Nat.le_of_ble_eq_true rfl) (Nat.le_of_ble_eq_true rfl) (Nat.le_of_ble_eq_true rfl) ?_
        rintro _ _ ⟨rfl, rfl⟩
        rw [xTg_in (r := i) (k := 1) (by omega) (by omega) (by omega) (by decide), (cSlates i him).2.1]
        refine x_istore dX10_areSlatesBy_41 (Nat.le_of_ble_eq_true rfl) ?_
        try simp only [xst, xst2, xclr, xset, xwide]
        refine x_iload_n dX10_areSlatesBy_43 rfl ?_
        refine x_iload_n dX10_areSlatesBy_44 rfl ?_
        refine x_icmp_ge (tgt := 75) dX10_areSlatesBy_45 rfl (fun c45 => ?_) (fun c45 => ?_)
        · refine x_iconst (v := 0) dX10_areSlatesBy_75 (by decide) ?_
          refine x_ireturn dX10_areSlatesBy_76 rfl rfl ?_
          first
          | (have h9 := Int32.not_lt.mpr c45; exact ⟨by rw [k4, slB_no him (fun y => h9 y.1)]; rfl, rfl⟩)
          | (have h9 := Int32.not_lt.mpr c51; exact ⟨by rw [k4, slB_no him (fun y => h9 y.2.1)]; rfl, rfl⟩)
          | (have h9 := c72; exact ⟨by rw [k4, slB_no him (fun y => h9 y.2.2)]; rfl, rfl⟩)
        · refine x_iload dX10_areSlatesBy_48 rfl ?_
          refine x_iload_n dX10_areSlatesBy_50 rfl ?_
          refine x_icmp_ge (tgt := 75) dX10_areSlatesBy_51 rfl (fun c51 => ?_) (fun c51 => ?_)
          · refine x_iconst (v := 0) dX10_areSlatesBy_75 (by decide) ?_
            refine x_ireturn dX10_areSlatesBy_76 rfl rfl ?_
            first
            | (have h9 := Int32.not_lt.mpr c45; exact ⟨by rw [k4, slB_no him (fun y => h9 y.1)]; rfl, rfl⟩)
            | (have h9 := Int32.not_lt.mpr c51; exact ⟨by rw [k4, slB_no him (fun y => h9 y.2.1)]; rfl, rfl⟩)
            | (have h9 := c72; exact ⟨by rw [k4, slB_no him (fun y => h9 y.2.2)]; rfl, rfl⟩)
          · refine x_aload_n dX10_areSlatesBy_54 rfl ?_
            refine y_getr dX10_areSlatesBy_55 F_C_12 (fxo_64 hx) rfl (fxp_64_0 hx) ?_
            refine y_getr dX10_areSlatesBy_58 F_C_209 (fxo_65 hx) rfl (fxp_65_4 hx) ?_
            refine x_iload_n dX10_areSlatesBy_61 rfl ?_
            refine x_iconst (v := 2) dX10_areSlatesBy_62 (by decide) ?_
            refine x_callV (k2 := 0) (n2 := 0) dX10_areSlatesBy_63 LV_C_125 (m_Table_get tSlates (x := nI i) (z := nI 2)) rfl rfl (fxo_74 hx) rfl (Nat.le_of_ble_eq_true rfl) (Nat.le_of_ble_eq_true rfl) (Nat.le_of_ble_eq_true rfl) (Nat.le_of_ble_eq_true rfl) ?_
            rintro _ _ ⟨rfl, rfl⟩
            rw [xTg_in (r := i) (k := 2) (by omega) (by omega) (by omega) (by decide), (cSlates i him).2.2]
            refine x_iload_n dX10_areSlatesBy_66 rfl ?_
            refine x_iload_n dX10_areSlatesBy_67 rfl ?_
            refine x_imul dX10_areSlatesBy_68 ?_
            refine x_iload dX10_areSlatesBy_69 rfl ?_
            refine x_iadd dX10_areSlatesBy_71 ?_
            refine x_icmp_eq (tgt := 77) dX10_areSlatesBy_72 rfl (fun c72 => ?_) (fun c72 => ?_)
            · refine x_iinc (v := (nI (i + 1))) dX10_areSlatesBy_77 rfl (nI_1 _) (Nat.le_of_ble_eq_true rfl) ?_
              try simp only [xst, xst2, xclr, xset, xwide]
              refine x_goto (tgt := 2) dX10_areSlatesBy_80 rfl ?_
              exact ih2 (i + 1) _ _ (by omega) (slB_s.mpr ⟨hs, Int32.not_le.mp c45, Int32.not_le.mp c51, c72⟩) (by omega)
            · refine x_iconst (v := 0) dX10_areSlatesBy_75 (by decide) ?_
              refine x_ireturn dX10_areSlatesBy_76 rfl rfl ?_
              first
              | (have h9 := Int32.not_lt.mpr c45; exact ⟨by rw [k4, slB_no him (fun y => h9 y.1)]; rfl, rfl⟩)
              | (have h9 := Int32.not_lt.mpr c51; exact ⟨by rw [k4, slB_no him (fun y => h9 y.2.1)]; rfl, rfl⟩)
              | (have h9 := c72; exact ⟨by rw [k4, slB_no him (fun y => h9 y.2.2)]; rfl, rfl⟩)
  exact K2 _ 0 none none (Nat.zero_le _) rfl (Nat.lt_succ_self _)

set_option maxHeartbeats 4000000 in
set_option maxRecDepth 100000 in
theorem m_C_counts {g : xG} {nx : Nat} {sh : Nat → Nat × Nat} {P : Nat → Nat → Option Nat} {I : Nat → Nat → Int32} (hx : xFx sh P) {s : Nat → Int32} (hW : xWN nx sh P I s) (hR : RI s) {what : Int32} : xMet g Y_C_counts 3 0 0 [.ref 64, .int what] (nx, sh, P, I) (fun r σ => r = some (.int (a_counts s what)) ∧ σ = (nx, sh, P, I)) := by
  refine xMet.of [some (.ref 64), some (.int what), none, none, none] (by decide +kernel) (Nat.le_of_ble_eq_true rfl) rfl ?_
  obtain ⟨⟨tTape, tCoins, tWares, tBuys, tSlates, tPlans, tBooked⟩, ⟨cTape, cCoins, cWares, cBuys, cSlates, cPlans, cBooked⟩, hW7, hW9, hL⟩ := id hW
  obtain ⟨⟨n0, b0, e0⟩, ⟨n1, b1, e1⟩, ⟨n2, b2, e2⟩, ⟨n3, b3, e3⟩, ⟨n4, b4, e4⟩, ⟨n5, b5, e5⟩, ⟨n6, b6, e6⟩, ⟨n7, b7, e7⟩, ⟨n9, b9, e9⟩⟩ := hR.k
  have k7 : cN s 7 = n7 := cN_of e7 (by omega)
  rw [k7] at tTape cTape
  have k0 : cN s 0 = n0 := cN_of e0 (by omega)
  rw [k0] at tCoins cCoins
  have k1 : cN s 1 = n1 := cN_of e1 (by omega)
  rw [k1] at tWares cWares
  have k3 : cN s 3 = n3 := cN_of e3 (by omega)
  rw [k3] at tBuys cBuys
  have k4 : cN s 4 = n4 := cN_of e4 (by omega)
  rw [k4] at tSlates cSlates
  have k5 : cN s 5 = n5 := cN_of e5 (by omega)
  rw [k5] at tPlans cPlans
  have k6 : cN s 6 = n6 := cN_of e6 (by omega)
  rw [k6] at tBooked cBooked
  refine x_iload_n dX10_counts_0 rfl ?_
  refine x_iconst (v := 0) dX10_counts_1 (by decide) ?_
  refine x_iconst (v := 1) dX10_counts_2 (by decide) ?_
  refine x_callS (k2 := 0) (n2 := 0) dX10_counts_3 LS_C_71 m_C_isOutside rfl rfl (Nat.le_of_ble_eq_true rfl) (Nat.le_of_ble_eq_true rfl) (Nat.le_of_ble_eq_true rfl) (Nat.le_of_ble_eq_true rfl) ?_
  rintro _ _ ⟨rfl, rfl⟩
  refine x_if_eq (tgt := 11) dX10_counts_6 rfl (fun c6 => ?_) (fun c6 => ?_)
  · refine x_iconst (v := 0) dX10_counts_11 (by decide) ?_
    refine x_istore_n dX10_counts_12 (Nat.le_of_ble_eq_true rfl) ?_
    try simp only [xst, xst2, xclr, xset, xwide]
    refine x_bipush (v := (-5)) dX10_counts_13 (by decide) ?_
    refine x_istore_n dX10_counts_15 (Nat.le_of_ble_eq_true rfl) ?_
    try simp only [xst, xst2, xclr, xset, xwide]
    refine x_bipush (v := 20) dX10_counts_16 (by decide) ?_
    refine x_istore dX10_counts_18 (Nat.le_of_ble_eq_true rfl) ?_
    try simp only [xst, xst2, xclr, xset, xwide]
    have K20 : ∀ (fuel : Nat) (m : Nat) (hm19 : m ≤ 19), 19 - m < fuel → xX g Y_C_counts 3 0 0 (fun r σ => r = some (.int (a_counts s what)) ∧ σ = (nx, sh, P, I)) 20 [some (.ref 64), some (.int what), some (.int (slC s m).1), some (.int (slC s m).2), some (.int (nI (20 - m)))] [] (nx, sh, P, I) := by
      intro fuel
      induction fuel with
      | zero => intro m hm19 hm; exact absurd hm (Nat.not_lt_zero _)
      | succ fuel ih20 =>
        intro m hm19 hm
        refine x_iload dX10_counts_20 rfl ?_
        refine x_iconst (v := 2) dX10_counts_22 (by decide) ?_
        refine x_icmp_lt (tgt := 47) dX10_counts_23 rfl (fun c23 => ?_) (fun c23 => ?_)
        · have hm2 : m = 19 := by have := (nI_ltI (b := 2) (by omega) (by decide)).mp c23; omega
          refine x_iload_n dX10_counts_47 rfl ?_
          refine x_if_ne (tgt := 55) dX10_counts_48 rfl (fun c48 => ?_) (fun c48 => ?_)
          · refine x_iload_n dX10_counts_55 rfl ?_
            refine x_ireturn dX10_counts_56 rfl nb_int ?_
            rw [hm2]
            first | exact ⟨by unfold a_counts; rw [if_pos (o_t c6), if_neg c48], rfl⟩ | exact ⟨by unfold a_counts; rw [if_pos (o_t c6), if_pos c48], rfl⟩
          · refine x_iload_n dX10_counts_51 rfl ?_
            refine x_goto (tgt := 56) dX10_counts_52 rfl ?_
            refine x_ireturn dX10_counts_56 rfl nb_int ?_
            rw [hm2]
            first | exact ⟨by unfold a_counts; rw [if_pos (o_t c6), if_neg c48], rfl⟩ | exact ⟨by unfold a_counts; rw [if_pos (o_t c6), if_pos c48], rfl⟩
        · have hm2 : m < 19 := by have h9 : ¬ 20 - m < 2 := fun z => c23 ((nI_ltI (b := 2) (by omega) (by decide)).mpr z); omega
          refine x_aload_n dX10_counts_26 rfl ?_
          refine x_iload dX10_counts_27 rfl ?_
          refine x_callV (k2 := 0) (n2 := 0) dX10_counts_29 LV_C_212 (m_C_areSlatesBy hx hW hR) rfl rfl (fxo_64 hx) rfl (Nat.le_of_ble_eq_true rfl) (Nat.le_of_ble_eq_true rfl) (Nat.le_of_ble_eq_true rfl) (Nat.le_of_ble_eq_true rfl) ?_
          rintro _ _ ⟨rfl, rfl⟩
          refine x_if_eq (tgt := 41) dX10_counts_32 rfl (fun c32 => ?_) (fun c32 => ?_)
          · refine x_iinc (v := (nI (20 - (m + 1)))) dX10_counts_41 rfl (by rw [i_m1, show 20 - m = (20 - (m + 1)) + 1 by omega, nI_pred]) (Nat.le_of_ble_eq_true rfl) ?_
            try simp only [xst, xst2, xclr, xset, xwide]
            refine x_goto (tgt := 20) dX10_counts_44 rfl ?_
            first | exact (by have h9 := bi_t c32; have h8 := ih20 (m + 1) (by omega) (by omega); rw [slC_s, if_pos h9] at h8; exact h8) | exact (by have h9 := bi_f c32; have h8 := ih20 (m + 1) (by omega) (by omega); rw [slC_s, if_neg (by rw [h9]; decide)] at h8; exact h8)
          · refine x_iinc dX10_counts_35 rfl rfl (Nat.le_of_ble_eq_true rfl) ?_
            try simp only [xst, xst2, xclr, xset, xwide]
            refine x_iload dX10_counts_38 rfl ?_
            refine x_istore_n dX10_counts_40 (Nat.le_of_ble_eq_true rfl) ?_
            try simp only [xst, xst2, xclr, xset, xwide]
            refine x_iinc (v := (nI (20 - (m + 1)))) dX10_counts_41 rfl (by rw [i_m1, show 20 - m = (20 - (m + 1)) + 1 by omega, nI_pred]) (Nat.le_of_ble_eq_true rfl) ?_
            try simp only [xst, xst2, xclr, xset, xwide]
            refine x_goto (tgt := 20) dX10_counts_44 rfl ?_
            first | exact (by have h9 := bi_t c32; have h8 := ih20 (m + 1) (by omega) (by omega); rw [slC_s, if_pos h9] at h8; exact h8) | exact (by have h9 := bi_f c32; have h8 := ih20 (m + 1) (by omega) (by omega); rw [slC_s, if_neg (by rw [h9]; decide)] at h8; exact h8)
    exact K20 _ 0 (Nat.zero_le _) (Nat.lt_succ_self _)
  · refine x_iconst (v := (-1)) dX10_counts_9 (by decide) ?_
    refine x_ireturn dX10_counts_10 rfl nb_int ?_
    exact ⟨by unfold a_counts; rw [if_neg (o_f c6)], rfl⟩
