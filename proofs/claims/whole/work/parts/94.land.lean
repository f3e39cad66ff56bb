/-! the class: a land told -/
/-- the state behind a land told: s before, t behind, what was read -/
def xLt (s t : Nat → Int32) (res : Option (List CL)) : Prop := RI t ∧ (∀ j, j < 217 → j ≠ 2 → j ≠ 7 → j ≠ 8 → t j = s j) ∧ t 7 = 0 ∧ ((res = none ∧ t 2 = s 2 ∧ t 8 = s 8 ∧ tlO t 217 9 = tlO s 217 9 ∧ tlO t 222 0 = tlO s 222 0 ∧ ∀ f, LK t f = LK s f) ∨ ∃ cs cv, res = some cs ∧ csOf cs cv ∧ t 2 = s 2 + 1 ∧ t 8 = s 2 ∧ tlO t 217 9 = lst 0 9 cv ∧ tlO t 222 0 = lst 1 0 cv ∧ ∀ f, LK t f = dl f 0 cv)
theorem xTb.gr {sh sh1 : Nat → Nat × Nat} {P P1 : Nat → Nat → Option Nat} {I J : Nat → Nat → Int32} {t c W L n n1 : Nat} (h : xTb sh P I t c W L n) (h1 : sh1 t = sh t) (h2 : sh1 c = sh c) (hp : P1 t 2 = P t 2) (h0 : J t 0 = I t 0) (hL : J t 1 = I t 1) (h3 : J t 3 = nI n1) (hn : n1 ≤ n) : xTb sh1 P1 J t c W L n1 := by
  obtain ⟨a1, a2, a3, a4, a5, a6, a7, a8⟩ := h
  exact ⟨by rw [h1]; exact a1, hp.trans a2, by rw [h2]; exact a3, h0.trans a4, hL.trans a5, h3, by omega, a8⟩
theorem wn_land {nx nx1 : Nat} {sh sh1 : Nat → Nat × Nat} {P P1 : Nat → Nat → Option Nat} {I J : Nat → Nat → Int32} {s t : Nat → Int32} (hW : xWN nx sh P I s) (hR : RI s) (hn : 144 ≤ nx) (hS : ∀ b, b < nx → sh1 b = sh b) (hP : ∀ b k, b < nx → ¬ (b = 65 ∧ k = 8) → P1 b k = P b k) (hJ : ∀ b, b < nx → b ∉ [65, 66, 97, 98, 99] → J b = I b) (h60 : J 66 0 = I 66 0) (h61 : J 66 1 = I 66 1) (h63 : J 66 3 = 0) (h7 : J 65 7 = t 2) (h9 : J 65 9 = t 9) (ht : ∀ j, j < 217 → j ≠ 2 → j ≠ 7 → j ≠ 8 → t j = s j) (t7 : t 7 = 0) (hld : xLd nx1 sh1 P1 J 65 t) : xWN nx1 sh1 P1 J t := by
  obtain ⟨⟨t1, t2, t3, t4, t5, t6, t8⟩, ⟨-, c2, c3, c4, c5, c6, c8⟩, -, -, -⟩ := hW
  have e7 : cN t 7 = 0 := by unfold cN; rw [t7]; rfl
  have ee : ∀ k, k ≠ 2 → k ≠ 7 → k ≠ 8 → k < 217 → cN t k = cN s k := fun k a b c d => cN_eq (ht k d a b c)
  have e0 := ee 0 (by decide) (by decide) (by decide) (by decide)
  have e1 := ee 1 (by decide) (by decide) (by decide) (by decide)
  have e3 := ee 3 (by decide) (by decide) (by decide) (by decide)
  have e4 := ee 4 (by decide) (by decide) (by decide) (by decide)
  have e5 := ee 5 (by decide) (by decide) (by decide) (by decide)
  have e6 := ee 6 (by decide) (by decide) (by decide) (by decide)
  obtain ⟨hk, ⟨b0, b1, -, b3, b4, b5, b6, -⟩, -⟩ := id hR
  have hu : ∀ j, 9 ≤ j → j < 217 → t j = s j := fun j a b => ht j b (by omega) (by omega) (by omega)
  refine ⟨⟨t1.gr (hS 66 (by omega)) (hS 67 (by omega)) (hP 66 2 (by omega) (by omega)) h60 h61 (by rw [h63, e7]; rfl) (by rw [e7]; exact Nat.zero_le _), ?_, ?_, ?_, ?_, ?_, ?_⟩, ⟨fun i hi => by rw [e7] at hi; exact absurd hi (Nat.not_lt_zero i), ?_, ?_, ?_, ?_, ?_, ?_⟩, h7, h9, hld⟩
  · rw [e0]
    have ej := hJ 68 (by omega) (by decide)
    exact t2.gr (hS 68 (by omega)) (hS 69 (by omega)) (hP 68 2 (by omega) (by omega)) (by rw [ej]) (by rw [ej]) (by rw [ej]; exact t2.2.2.2.2.2.1) (Nat.le_refl _)
  · rw [e1]
    have ej := hJ 70 (by omega) (by decide)
    exact t3.gr (hS 70 (by omega)) (hS 71 (by omega)) (hP 70 2 (by omega) (by omega)) (by rw [ej]) (by rw [ej]) (by rw [ej]; exact t3.2.2.2.2.2.1) (Nat.le_refl _)
  · rw [e3]
    have ej := hJ 72 (by omega) (by decide)
    exact t4.gr (hS 72 (by omega)) (hS 73 (by omega)) (hP 72 2 (by omega) (by omega)) (by rw [ej]) (by rw [ej]) (by rw [ej]; exact t4.2.2.2.2.2.1) (Nat.le_refl _)
  · rw [e4]
    have ej := hJ 74 (by omega) (by decide)
    exact t5.gr (hS 74 (by omega)) (hS 75 (by omega)) (hP 74 2 (by omega) (by omega)) (by rw [ej]) (by rw [ej]) (by rw [ej]; exact t5.2.2.2.2.2.1) (Nat.le_refl _)
  · rw [e5]
    have ej := hJ 76 (by omega) (by decide)
    exact t6.gr (hS 76 (by omega)) (hS 77 (by omega)) (hP 76 2 (by omega) (by omega)) (by rw [ej]) (by rw [ej]) (by rw [ej]; exact t6.2.2.2.2.2.1) (Nat.le_refl _)
  · rw [e6]
    have ej := hJ 78 (by omega) (by decide)
    exact t8.gr (hS 78 (by omega)) (hS 79 (by omega)) (hP 78 2 (by omega) (by omega)) (by rw [ej]) (by rw [ej]) (by rw [ej]; exact t8.2.2.2.2.2.1) (Nat.le_refl _)
  · rw [e0, hJ 69 (by omega) (by decide)]
    intro c hc
    rw [hu (10 + c) (by omega) (by omega), hu (14 + c) (by omega) (by omega), hu (18 + c) (by omega) (by omega), hu (22 + c) (by omega) (by omega)]
    exact ⟨(c2 c hc).1, (c2 c hc).2.1, (c2 c hc).2.2.1, (c2 c hc).2.2.2.1, fun k hk => by rw [hu _ (by omega) (by omega)]; exact (c2 c hc).2.2.2.2 k hk⟩
  · rw [e1, hJ 71 (by omega) (by decide)]
    intro i hi
    rw [hu _ (by omega) (by omega)]; exact c3 i hi
  · rw [e3, hJ 73 (by omega) (by decide)]
    intro i hi
    rw [hu (47 + i) (by omega) (by omega)]
    exact ⟨(c4 i hi).1, fun k hk => by rw [hu _ (by omega) (by omega)]; exact (c4 i hi).2 k hk⟩
  · rw [e4, hJ 75 (by omega) (by decide)]
    intro i hi
    rw [hu (77 + i) (by omega) (by omega), hu (83 + i) (by omega) (by omega), hu (89 + i) (by omega) (by omega)]
    exact c5 i hi
  · rw [e5, hJ 77 (by omega) (by decide)]
    intro i hi
    rw [hu _ (by omega) (by omega)]; exact c6 i hi
  · rw [e6, hJ 79 (by omega) (by decide)]
    intro i hi
    rw [hu (101 + i) (by omega) (by omega), hu (109 + i) (by omega) (by omega)]
    exact c8 i hi
set_option maxHeartbeats 4000000 in
set_option maxRecDepth 100000 in
theorem m_Reader_place {g : xG} {nx : Nat} {sh : Nat → Nat × Nat} {P : Nat → Nat → Option Nat} {I : Nat → Nat → Int32} (hx : xFx sh P) {v : Int32} (hv : I 97 3 = v) : xMet g Y_Reader_place 0 0 0 [.ref 97] (nx, sh, P, I) (fun r σ => r = some (.int v) ∧ σ = (nx, sh, P, I)) := by
  refine xMet.of [some (.ref 97)] (by decide +kernel) (Nat.le_of_ble_eq_true rfl) rfl ?_
  refine x_aload_n dX6_place_0 rfl ?_
  refine y_geti dX6_place_1 F_Reader_19 (fxo_97 hx) rfl hv ?_
  refine x_ireturn dX6_place_4 rfl nb_int ?_
  exact ⟨rfl, rfl⟩

set_option maxHeartbeats 4000000 in
set_option maxRecDepth 100000 in
theorem m_C_land {g : xG} {nx : Nat} {sh : Nat → Nat × Nat} {P : Nat → Nat → Option Nat} {I : Nat → Nat → Int32} (hx : xFx sh P) {s : Nat → Int32} (hW : xWN nx sh P I s) (hR : RI s) (hnx : 144 ≤ nx) : xMet g Y_C_land 9 22 1042 [.ref 64] (nx, sh, P, I) (fun r σ => ∃ (nx1 : Nat) (sh1 : Nat → Nat × Nat) (P1 : Nat → Nat → Option Nat) (I1 : Nat → Nat → Int32) (a : Int32), r = some (.int a) ∧ σ = (nx1, sh1, P1, I1) ∧ nx ≤ nx1 ∧ (∀ b, b < nx → sh1 b = sh b) ∧ (∀ b k, b < nx → ¬ (b = 65 ∧ k = 8) → P1 b k = P b k) ∧ (∀ b, b < nx → b ∉ [65, 66, 97, 98, 99] → I1 b = I b) ∧ ((s 2 = 5 ∧ a = -4 ∧ xWN nx1 sh1 P1 I1 s) ∨ (¬ s 2 = 5 ∧ ∃ res sp, ldF (txt s) (cN s 7) 10 0 res sp ∧ (res = none → a = -10 - nI sp) ∧ (∀ l, res = some l → a = s 2) ∧ ∀ t, xLt s t res → xWN nx1 sh1 P1 I1 t))) := by
  refine xMet.of [some (.ref 64), none] (by decide +kernel) (Nat.le_of_ble_eq_true rfl) rfl ?_
  obtain ⟨⟨tTape, tCoins, tWares, tBuys, tSlates, tPlans, tBooked⟩, ⟨cTape, cCoins, cWares, cBuys, cSlates, cPlans, cBooked⟩, hW7, hW9, hL⟩ := id hW
  obtain ⟨⟨n0, b0, e0⟩, ⟨n1, b1, e1⟩, ⟨n2, b2, e2⟩, ⟨n3, b3, e3⟩, ⟨n4, b4, e4⟩, ⟨n5, b5, e5⟩, ⟨n6, b6, e6⟩, ⟨n7, b7, e7⟩, ⟨n9, b9, e9⟩⟩ := hR.k
  have k7 : cN s 7 = n7 := cN_of e7 (by omega)
  rw [k7] at tTape cTape
  have k0 : cN s 0 = n0 := cN_of e0 (by omega)
  rw [k0] at tCoins cCoins
  have k1 : cN s 1 = n1 := cN_of e1 (by omega)
  rw [k1] at tWares cWares
  have k3 : cN s 3 = n3 := cN_of e3 (by omega)
  rw [k3] at tBuys cBuys
  have k4 : cN s 4 = n4 := cN_of e4 (by omega)
  rw [k4] at tSlates cSlates
  have k5 : cN s 5 = n5 := cN_of e5 (by omega)
  rw [k5] at tPlans cPlans
  have k6 : cN s 6 = n6 := cN_of e6 (by omega)
  rw [k6] at tBooked cBooked
  obtain ⟨⟨tTape, tCoins, tWares, tBuys, tSlates, tPlans, tBooked⟩, ⟨cTape, cCoins, cWares, cBuys, cSlates, cPlans, cBooked⟩, hW7, hW9, hL⟩ := id hW
  obtain ⟨⟨n0, b0, e0⟩, ⟨n1, b1, e1⟩, ⟨n2, b2, e2⟩, ⟨n3, b3, e3⟩, ⟨n4, b4, e4⟩, ⟨n5, b5, e5⟩, ⟨n6, b6, e6⟩, ⟨n7, b7, e7⟩, ⟨n9, b9, e9⟩⟩ := hR.k
  have k7 : cN s 7 = n7 := cN_of e7 (by omega)
  rw [k7] at tTape cTape
  have k0 : cN s 0 = n0 := cN_of e0 (by omega)
  rw [k0] at tCoins cCoins
  have k1 : cN s 1 = n1 := cN_of e1 (by omega)
  rw [k1] at tWares cWares
  have k3 : cN s 3 = n3 := cN_of e3 (by omega)
  rw [k3] at tBuys cBuys
  have k4 : cN s 4 = n4 := cN_of e4 (by omega)
  rw [k4] at tSlates cSlates
  have k5 : cN s 5 = n5 := cN_of e5 (by omega)
  rw [k5] at tPlans cPlans
  have k6 : cN s 6 = n6 := cN_of e6 (by omega)
  rw [k6] at tBooked cBooked
  obtain ⟨-, -, ⟨n2, b2, e2⟩, -⟩ := hR.k
  refine x_aload_n dX10_land_0 rfl ?_
  refine y_getr dX10_land_1 F_C_12 (fxo_64 hx) rfl (fxp_64_0 hx) ?_
  refine y_geti dX10_land_4 F_C_92 (fxo_65 hx) rfl (hW7.trans e2) ?_
  refine x_iconst (v := 5) dX10_land_7 (by decide) ?_
  refine x_icmp_lt (tgt := 14) dX10_land_8 rfl (fun c8 => ?_) (fun c8 => ?_)
  · have hn5 : ¬ s 2 = 5 := fun z => by
      have h9 := (nI_ltI (b := 5) (by omega) (by decide)).mp c8
      rw [e2] at z
      have h8 := (nI_eqI (b := 5) (by omega) (by decide)).mp z
      omega
    refine x_aload_n dX10_land_14 rfl ?_
    refine y_getr dX10_land_15 F_C_34 (fxo_64 hx) rfl (fxp_64_3 hx) ?_
    refine x_callV (k2 := 0) (n2 := 0) dX10_land_18 LV_C_96 (m_Reader_read hx hW hR hnx) rfl rfl (fxo_97 hx) rfl (Nat.le_of_ble_eq_true rfl) (Nat.le_of_ble_eq_true rfl) (Nat.le_of_ble_eq_true rfl) (Nat.le_of_ble_eq_true rfl) ?_
    rintro _ _ ⟨nx1, sh1, P1, I1, sp1, rfl, hn1, hG, hr1, ⟨rfl, hl⟩ | ⟨cs, rfl, hl, hL1⟩⟩
    rotate_left 0
    · have hS2 := fun b hb => (hG.1 b hb).1
      have hJ2 : ∀ b, b < nx → b ∉ [65, 66, 97, 98, 99] → xup I1 66 3 0 b = I b := fun b hb hl => by
        rw [xup_n (fun z => hl (by rw [z]; decide))]
        exact hG.2 b hb (fun z => hl (by simp at z ⊢; omega))
      have h66 : I1 66 = I 66 := hG.2 66 (by omega) (by decide)
      have h65 : I1 65 = I 65 := hG.2 65 (by omega) (by decide)
      have hx0 := hx
      have hx := hx.gr hnx hG
      have tT1 : xTb sh1 P1 I1 66 67 1 100 n7 := tTape.gr (hS2 66 (by omega)) (hS2 67 (by omega)) (by rw [(hG.1 66 (by omega)).2]) (by rw [h66]) (by rw [h66]) (by rw [h66]; exact tTape.2.2.2.2.2.1) (Nat.le_refl _)
      refine x_astore_nN dX10_land_21 (Nat.le_of_ble_eq_true rfl) ?_
      try simp only [xst, xst2, xclr, xset, xwide]
      refine x_aload_n dX10_land_22 rfl ?_
      refine y_getr dX10_land_23 F_C_12 (fxo_64 hx) rfl (fxp_64_0 hx) ?_
      refine y_getr dX10_land_26 F_C_27 (fxo_65 hx) rfl (fxp_65_0 hx) ?_
      refine x_callV (k2 := 0) (n2 := 0) dX10_land_29 LV_C_100 (m_Table_clear tT1) rfl rfl (fxo_66 hx) rfl (Nat.le_of_ble_eq_true rfl) (Nat.le_of_ble_eq_true rfl) (Nat.le_of_ble_eq_true rfl) (Nat.le_of_ble_eq_true rfl) ?_
      rintro _ _ ⟨rfl, rfl⟩
      refine x_aload_nN dX10_land_32 rfl ?_
      refine x_ifnonnullN dX10_land_33 ?_
      refine x_bipush (v := (-10)) dX10_land_36 (by decide) ?_
      refine x_aload_n dX10_land_38 rfl ?_
      refine y_getr dX10_land_39 F_C_34 (fxo_64 hx) rfl (fxp_64_3 hx) ?_
      refine x_callV (k2 := 0) (n2 := 0) dX10_land_42 LV_C_103 (m_Reader_place (v := nI sp1) hx ((xo (by decide)).trans hr1.2.1)) rfl rfl (fxo_97 hx) rfl (Nat.le_of_ble_eq_true rfl) (Nat.le_of_ble_eq_true rfl) (Nat.le_of_ble_eq_true rfl) (Nat.le_of_ble_eq_true rfl) ?_
      rintro _ _ ⟨rfl, rfl⟩
      refine x_isub dX10_land_45 ?_
      refine x_ireturn dX10_land_46 rfl nb_int ?_
      refine ⟨nx1, sh1, P1, _, _, rfl, rfl, by omega, hS2, fun b k hb _ => by rw [(hG.1 b hb).2], hJ2, Or.inr ⟨hn5, none, sp1, hl, fun _ => rfl, fun l hl => (by cases hl), ?_⟩⟩
      rintro t ⟨hRt, ht, t7, ⟨-, d2, d8, dT, dC, dL⟩ | ⟨cs, cv, hcs, -⟩⟩
      · refine wn_land hW hR hnx hS2 (fun b k hb _ => by rw [(hG.1 b hb).2]) hJ2 (by rw [xf (by decide), h66]) (by rw [xf (by decide), h66]) xs (by rw [xo (by decide), h65, hW7, d2]) (by rw [xo (by decide), h65, hW9, ht 9 (by decide) (by decide) (by decide) (by decide)]) ht t7 ?_
        have hL2 := hL.mv (nx' := nx1) (sh' := sh1) (P' := P1) (I' := xup I1 66 3 0) (by omega) (by rw [(hG.1 65 (by omega)).2]) (fun a h1 h2 => ⟨by rw [xup_n (by omega)]; exact hG.2 a h2 (fun z => by simp at z; omega), (hG.1 a h2).2, (hG.1 a h2).1⟩)
        rcases hL2 with ⟨g1, g2⟩ | ⟨g1, la, ar, cs, cv, g2, g3, g4, g5, g6, g7⟩
        · exact Or.inl ⟨d8.trans g1, g2⟩
        · exact Or.inr ⟨fun z => g1 (d8.symm.trans z), la, ar, cs, cv, g2, g3, g4, dT.trans g5, dC.trans g6, fun f => (dL f).trans (g7 f)⟩
      · cases hcs
    · have hS2 := fun b hb => (hG.1 b hb).1
      have hJ2 : ∀ b, b < nx → b ∉ [65, 66, 97, 98, 99] → xup I1 66 3 0 b = I b := fun b hb hl => by
        rw [xup_n (fun z => hl (by rw [z]; decide))]
        exact hG.2 b hb (fun z => hl (by simp at z ⊢; omega))
      have h66 : I1 66 = I 66 := hG.2 66 (by omega) (by decide)
      have h65 : I1 65 = I 65 := hG.2 65 (by omega) (by decide)
      have hx0 := hx
      have hx := hx.gr hnx hG
      have tT1 : xTb sh1 P1 I1 66 67 1 100 n7 := tTape.gr (hS2 66 (by omega)) (hS2 67 (by omega)) (by rw [(hG.1 66 (by omega)).2]) (by rw [h66]) (by rw [h66]) (by rw [h66]; exact tTape.2.2.2.2.2.1) (Nat.le_refl _)
      refine x_astore_n dX10_land_21 (Nat.le_of_ble_eq_true rfl) ?_
      try simp only [xst, xst2, xclr, xset, xwide]
      refine x_aload_n dX10_land_22 rfl ?_
      refine y_getr dX10_land_23 F_C_12 (fxo_64 hx) rfl (fxp_64_0 hx) ?_
      refine y_getr dX10_land_26 F_C_27 (fxo_65 hx) rfl (fxp_65_0 hx) ?_
      refine x_callV (k2 := 0) (n2 := 0) dX10_land_29 LV_C_100 (m_Table_clear tT1) rfl rfl (fxo_66 hx) rfl (Nat.le_of_ble_eq_true rfl) (Nat.le_of_ble_eq_true rfl) (Nat.le_of_ble_eq_true rfl) (Nat.le_of_ble_eq_true rfl) ?_
      rintro _ _ ⟨rfl, rfl⟩
      refine x_aload_n dX10_land_32 rfl ?_
      refine x_ifnonnull (tgt := 47) rfl dX10_land_33 ?_
      refine x_aload_n dX10_land_47 rfl ?_
      refine y_getr dX10_land_48 F_C_12 (fxo_64 hx) rfl (fxp_64_0 hx) ?_
      refine x_aload_n dX10_land_51 rfl ?_
      refine x_putr dX10_land_52 F_C_106 T_9_8 (fxo_65 hx) rfl (fun _ => rfl) (fun _ => rfl) ?_
      have hx := hx.P (P1 := xrp P1 65 8 (some nx)) (fun a k h => by
        by_cases h5 : a = 65
        · rw [h5, xrp_s, vu_n (fun z => h ⟨Or.inl h5, z⟩)]
        · rw [xrp_n h5])
      refine x_aload_n dX10_land_55 rfl ?_
      refine y_getr dX10_land_56 F_C_12 (fxo_64 hx) rfl (fxp_64_0 hx) ?_
      refine x_dup dX10_land_59 rfl ?_
      refine y_geti dX10_land_60 F_C_92 (fxo_65 hx) rfl (show xup I1 66 3 0 65 7 = nI n2 from by rw [xo (by decide), h65, hW7]; exact e2) ?_
      refine x_iconst (v := 1) dX10_land_63 (by decide) ?_
      refine x_iadd dX10_land_64 ?_
      rw [nI_1]
      refine x_puti dX10_land_65 F_C_92 T_9_7 (fxo_65 hx) rfl rfl rfl ?_
      refine x_aload_n dX10_land_68 rfl ?_
      refine y_getr dX10_land_69 F_C_12 (fxo_64 hx) rfl (fxp_64_0 hx) ?_
      refine y_geti dX10_land_72 F_C_92 (fxo_65 hx) rfl xs ?_
      refine x_iconst (v := 1) dX10_land_75 (by decide) ?_
      refine x_isub dX10_land_76 ?_
      rw [show nI (n2 + 1) - 1 = nI n2 from nI_subN (a := n2 + 1) (b := 1) (by omega)]
      refine x_ireturn dX10_land_77 rfl nb_int ?_
      have hPp : ∀ b k, b < nx → ¬ (b = 65 ∧ k = 8) → xrp P1 65 8 (some nx) b k = P b k := fun b k hb hk => by
        by_cases h5 : b = 65
        · rw [h5, xrp_s, vu_n (fun z => hk ⟨h5, z⟩)]
          rw [h5] at hb
          rw [(hG.1 65 hb).2]
        · rw [xrp_n h5, (hG.1 b hb).2]
      refine ⟨nx1, sh1, _, _, _, rfl, rfl, by omega, hS2, hPp, fun b hb hl => by rw [xup_n (fun z => hl (by rw [z]; decide))]; exact hJ2 b hb hl, Or.inr ⟨hn5, some cs, sp1, hl, fun z => (by cases z), fun l _ => e2.symm, ?_⟩⟩
      rintro t ⟨hRt, ht, t7, ⟨h0, -⟩ | ⟨cs2, cv, hcs, q1, q2, q8, qT, qC, qL⟩⟩
      · cases h0
      · cases hcs
        refine wn_land hW hR hnx hS2 hPp (fun b hb hl => by rw [xup_n (fun z => hl (by rw [z]; decide))]; exact hJ2 b hb hl) (by rw [xo (by decide), xf (by decide), h66]) (by rw [xo (by decide), xf (by decide), h66]) (by rw [xo (by decide), xs]) (by rw [xs, q2, e2, nI_1]) (by rw [xf (by decide), xo (by decide), h65, hW9, ht 9 (by decide) (by decide) (by decide) (by decide)]) ht t7 ?_
        refine Or.inr ⟨by rw [q8, e2]; exact nI_m1 (by omega), nx, nx + 1, cs, cv, by rw [xrp_s, vu_e], ?_, q1, qT, qC, qL⟩
        refine hL1.mv (Nat.le_refl _) (fun a h1 h2 => ⟨by rw [xup_n (by omega), xup_n (by omega)], xrp_n (by omega), rfl⟩)
  · have hn5 : s 2 = 5 := by
      have h9 : ¬ n2 < 5 := fun y => c8 (nI_lt y (by decide))
      rw [e2, show n2 = 5 by omega]; rfl
    refine x_bipush (v := (-4)) dX10_land_11 (by decide) ?_
    refine x_ireturn dX10_land_13 rfl nb_int ?_
    exact ⟨nx, sh, P, I, -4, rfl, rfl, Nat.le_refl _, fun _ _ => rfl, fun _ _ _ _ => rfl, fun _ _ _ => rfl, Or.inl ⟨hn5, rfl, hW⟩⟩
