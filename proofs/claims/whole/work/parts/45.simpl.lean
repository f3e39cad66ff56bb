/-! the class: simple calls -/
theorem o_t {c : Prop} [Decidable c] (h : (if c then (0 : Int32) else 1) = 0) : c := by
  by_cases z : c
  · exact z
  · rw [if_neg z] at h; exact absurd h (by decide)
theorem o_f {c : Prop} [Decidable c] (h : ¬ (if c then (0 : Int32) else 1) = 0) : ¬ c := fun z => h (if_pos z)
set_option maxHeartbeats 4000000 in
set_option maxRecDepth 100000 in
theorem m_C_isOutside {g : xG} {nx : Nat} {sh : Nat → Nat × Nat} {P : Nat → Nat → Option Nat} {I : Nat → Nat → Int32} {x lo hi : Int32} : xMet g Y_C_isOutside 0 0 0 [.int x, .int lo, .int hi] (nx, sh, P, I) (fun r σ => r = some (.int (if lo ≤ x ∧ x ≤ hi then 0 else 1)) ∧ σ = (nx, sh, P, I)) := by
  refine xMet.of [some (.int x), some (.int lo), some (.int hi)] (by decide +kernel) (Nat.le_of_ble_eq_true rfl) rfl ?_
  refine x_iload_n dX10_isOutside_0 rfl ?_
  refine x_iload_n dX10_isOutside_1 rfl ?_
  refine x_icmp_lt (tgt := 10) dX10_isOutside_2 rfl (fun c2 => ?_) (fun c2 => ?_)
  · refine x_iconst (v := 1) dX10_isOutside_10 (by decide) ?_
    refine x_goto (tgt := 15) dX10_isOutside_11 rfl ?_
    refine x_ireturn dX10_isOutside_15 rfl rfl ?_
    exact ⟨by grind, rfl⟩
  · refine x_iload_n dX10_isOutside_5 rfl ?_
    refine x_iload_n dX10_isOutside_6 rfl ?_
    refine x_icmp_le (tgt := 14) dX10_isOutside_7 rfl (fun c7 => ?_) (fun c7 => ?_)
    · refine x_iconst (v := 0) dX10_isOutside_14 (by decide) ?_
      refine x_ireturn dX10_isOutside_15 rfl rfl ?_
      exact ⟨by grind, rfl⟩
    · refine x_iconst (v := 1) dX10_isOutside_10 (by decide) ?_
      refine x_goto (tgt := 15) dX10_isOutside_11 rfl ?_
      refine x_ireturn dX10_isOutside_15 rfl rfl ?_
      exact ⟨by grind, rfl⟩

set_option maxHeartbeats 4000000 in
set_option maxRecDepth 100000 in
theorem m_C_feed {g : xG} {nx : Nat} {sh : Nat → Nat × Nat} {P : Nat → Nat → Option Nat} {I : Nat → Nat → Int32} (hx : xFx sh P) {s : Nat → Int32} (hW : xWN nx sh P I s) (hR : RI s) {x : Int32} : xMet g Y_C_feed 3 0 0 [.ref 64, .int x] (nx, sh, P, I) (fun r σ => ∃ I1 : Nat → Nat → Int32, r = some (.int (a_feed s x)) ∧ σ = (nx, sh, P, I1) ∧ xWN nx sh P I1 (s_feed s x) ∧ xFrm [66, 67] I I1) := by
  refine xMet.of [some (.ref 64), some (.int x)] (by decide +kernel) (Nat.le_of_ble_eq_true rfl) rfl ?_
  obtain ⟨⟨tTape, tCoins, tWares, tBuys, tSlates, tPlans, tBooked⟩, ⟨cTape, cCoins, cWares, cBuys, cSlates, cPlans, cBooked⟩, hW7, hW9, hL⟩ := id hW
  obtain ⟨⟨n0, b0, e0⟩, ⟨n1, b1, e1⟩, ⟨n2, b2, e2⟩, ⟨n3, b3, e3⟩, ⟨n4, b4, e4⟩, ⟨n5, b5, e5⟩, ⟨n6, b6, e6⟩, ⟨n7, b7, e7⟩, ⟨n9, b9, e9⟩⟩ := hR.k
  have k7 : cN s 7 = n7 := cN_of e7 (by omega)
  rw [k7] at tTape cTape
  have k0 : cN s 0 = n0 := cN_of e0 (by omega)
  rw [k0] at tCoins cCoins
  have k1 : cN s 1 = n1 := cN_of e1 (by omega)
  rw [k1] at tWares cWares
  have k3 : cN s 3 = n3 := cN_of e3 (by omega)
  rw [k3] at tBuys cBuys
  have k4 : cN s 4 = n4 := cN_of e4 (by omega)
  rw [k4] at tSlates cSlates
  have k5 : cN s 5 = n5 := cN_of e5 (by omega)
  rw [k5] at tPlans cPlans
  have k6 : cN s 6 = n6 := cN_of e6 (by omega)
  rw [k6] at tBooked cBooked
  refine x_iload_n dX10_feed_0 rfl ?_
  refine x_iconst (v := 0) dX10_feed_1 (by decide) ?_
  refine x_bipush (v := 127) dX10_feed_2 (by decide) ?_
  refine x_callS (k2 := 0) (n2 := 0) dX10_feed_4 LS_C_71 m_C_isOutside rfl rfl (Nat.le_of_ble_eq_true rfl) (Nat.le_of_ble_eq_true rfl) (Nat.le_of_ble_eq_true rfl) (Nat.le_of_ble_eq_true rfl) ?_
  rintro _ _ ⟨rfl, rfl⟩
  refine x_if_eq (tgt := 13) dX10_feed_7 rfl (fun c7 => ?_) (fun c7 => ?_)
  · refine x_aload_n dX10_feed_13 rfl ?_
    refine y_getr dX10_feed_14 F_C_12 (fxo_64 hx) rfl (fxp_64_0 hx) ?_
    refine y_getr dX10_feed_17 F_C_27 (fxo_65 hx) rfl (fxp_65_0 hx) ?_
    refine x_callV (k2 := 0) (n2 := 0) dX10_feed_20 LV_C_75 (m_Table_isFull tTape) rfl rfl (fxo_66 hx) rfl (Nat.le_of_ble_eq_true rfl) (Nat.le_of_ble_eq_true rfl) (Nat.le_of_ble_eq_true rfl) (Nat.le_of_ble_eq_true rfl) ?_
    rintro _ _ ⟨rfl, rfl⟩
    refine x_if_eq (tgt := 29) dX10_feed_23 rfl (fun c23 => ?_) (fun c23 => ?_)
    · have hnL : n7 < 100 := Nat.lt_of_not_le (b_f c23)
      have hnm : ¬ nI n7 = 100 := fun z => by have := (nI_eqI (b := 100) (by omega) (by decide)).mp z; omega
      refine x_aload_n dX10_feed_29 rfl ?_
      refine y_getr dX10_feed_30 F_C_12 (fxo_64 hx) rfl (fxp_64_0 hx) ?_
      refine y_getr dX10_feed_33 F_C_27 (fxo_65 hx) rfl (fxp_65_0 hx) ?_
      refine x_aload_n dX10_feed_36 rfl ?_
      refine y_getr dX10_feed_37 F_C_12 (fxo_64 hx) rfl (fxp_64_0 hx) ?_
      refine y_getr dX10_feed_40 F_C_27 (fxo_65 hx) rfl (fxp_65_0 hx) ?_
      refine x_callV (k2 := 0) (n2 := 0) dX10_feed_43 LV_C_81 (m_Table_add tTape hnL) rfl rfl (fxo_66 hx) rfl (Nat.le_of_ble_eq_true rfl) (Nat.le_of_ble_eq_true rfl) (Nat.le_of_ble_eq_true rfl) (Nat.le_of_ble_eq_true rfl) ?_
      rintro _ _ ⟨rfl, rfl⟩
      rw [apF_0 (vs := [0]) (fun q hq => by match q, hq with | 0, _ => rfl)]
      refine x_iconst (v := 0) dX10_feed_46 (by decide) ?_
      refine x_iload_n dX10_feed_47 rfl ?_
      refine x_callV (k2 := 0) (n2 := 0) dX10_feed_48 LV_C_85 (m_Table_put (r := n7) (q := 0) (tTape.app hnL) (by omega) (by decide)) rfl rfl (fxo_66 hx) rfl (Nat.le_of_ble_eq_true rfl) (Nat.le_of_ble_eq_true rfl) (Nat.le_of_ble_eq_true rfl) (Nat.le_of_ble_eq_true rfl) ?_
      rintro _ _ ⟨rfl, rfl⟩
      rw [xup_row, va_up_at, apF_s (vs' := [x]) (by decide) (fun q hq => by match q, hq with | 0, _ => rfl)]
      refine x_pop dX10_feed_51 rfl ?_
      refine x_aload_n dX10_feed_52 rfl ?_
      refine y_getr dX10_feed_53 F_C_12 (fxo_64 hx) rfl (fxp_64_0 hx) ?_
      refine y_getr dX10_feed_56 F_C_27 (fxo_65 hx) rfl (fxp_65_0 hx) ?_
      refine x_callV (k2 := 0) (n2 := 0) dX10_feed_59 LV_C_89 (m_Table_rows (tTape.app hnL)) rfl rfl (fxo_66 hx) rfl (Nat.le_of_ble_eq_true rfl) (Nat.le_of_ble_eq_true rfl) (Nat.le_of_ble_eq_true rfl) (Nat.le_of_ble_eq_true rfl) ?_
      rintro _ _ ⟨rfl, rfl⟩
      refine x_ireturn dX10_feed_62 rfl nb_int ?_
      have hs : s_feed s x = upd (upd s (117 + n7) x) 7 (nI (n7 + 1)) := by unfold s_feed; rw [if_pos ⟨o_t c7, by rw [e7]; exact hnm⟩, k7, e7, nI_1]
      have ht : cN (s_feed s x) 7 = n7 + 1 := cN_of (by rw [hs]; exact upd_e) (by omega)
      have hA : ∀ j, j ≠ 117 + n7 → j ≠ 7 → (s_feed s x) j = s j := fun j q0 q1 => by rw [hs, upd_n q1, upd_n q0]
      obtain ⟨I1, hI1⟩ : ∃ I1, I1 = va_up (xup I 66 3 (nI (n7 + 1))) 67 (apF (I 67) n7 1 [x]) := ⟨_, rfl⟩
      have hF : xFrm [66, 67] I I1 := by rw [hI1]; exact xFrv (xFrs xFrm.rf)
      have hT : xTb sh P I1 66 67 1 100 (cN (s_feed s x) 7) := by rw [ht, hI1]; exact tTape.app hnL
      exact ⟨I1, by unfold a_feed; rw [if_pos (o_t c7), if_neg (show ¬ s 7 = _ by rw [e7]; exact hnm), e7, nI_1], by rw [hI1], hW.mst hR (Or.inr ⟨hT, (by rw [hI1, hs]; rw [hs] at ht; exact (fun i hi => by
            rw [ht] at hi
            rw [va_up_at]
            by_cases hin2 : i = n7
            · rw [hin2, apF_n (by decide)]; rw [upd_n (by omega), upd_e]; rfl
            · rw [apF_o (by omega) (by decide), cTape i (by omega), upd_n (by omega), upd_n (by omega)]))⟩) (Or.inl ⟨hF 68 (by decide), hF 69 (by decide), (hA 0 (by omega) (by omega)), fun j _ _ => (hA j (by omega) (by omega))⟩) (Or.inl ⟨hF 70 (by decide), hF 71 (by decide), (hA 1 (by omega) (by omega)), fun j _ _ => (hA j (by omega) (by omega))⟩) (Or.inl ⟨hF 72 (by decide), hF 73 (by decide), (hA 3 (by omega) (by omega)), fun j _ _ => (hA j (by omega) (by omega))⟩) (Or.inl ⟨hF 74 (by decide), hF 75 (by decide), (hA 4 (by omega) (by omega)), fun j _ _ => (hA j (by omega) (by omega))⟩) (Or.inl ⟨hF 76 (by decide), hF 77 (by decide), (hA 5 (by omega) (by omega)), fun j _ _ => (hA j (by omega) (by omega))⟩) (Or.inl ⟨hF 78 (by decide), hF 79 (by decide), (hA 6 (by omega) (by omega)), fun j _ _ => (hA j (by omega) (by omega))⟩) ((congrFun (hF 65 (by decide)) 7).trans (hW7.trans (hA 2 (by omega) (by omega)).symm)) ((congrFun (hF 65 (by decide)) 9).trans (hW9.trans (hA 9 (by omega) (by omega)).symm)) ⟨fun a ha => hF a (fun z => by simp only [List.mem_cons, List.not_mem_nil, or_false] at z; omega), (hA 8 (by omega) (by omega)), fun j hj => (hA j (by omega) (by omega))⟩, hF⟩
    · have hnm : nI n7 = 100 := by have h9 := b_t c23; rw [show n7 = 100 by omega]; rfl
      refine x_bipush (v := (-4)) dX10_feed_26 (by decide) ?_
      refine x_ireturn dX10_feed_28 rfl nb_int ?_
      exact ⟨I, by unfold a_feed; rw [if_pos (o_t c7), if_pos (show s 7 = 100 by rw [e7]; exact hnm)], rfl, by unfold s_feed; rw [if_neg (fun z => z.2 (by rw [e7]; exact hnm))]; exact hW, xFrm.rf⟩
  · refine x_bipush (v := (-2)) dX10_feed_10 (by decide) ?_
    refine x_ireturn dX10_feed_12 rfl nb_int ?_
    exact ⟨I, by unfold a_feed; rw [if_neg (o_f c7)], rfl, by unfold s_feed; rw [if_neg (fun z => o_f c7 z.1)]; exact hW, xFrm.rf⟩

set_option maxHeartbeats 4000000 in
set_option maxRecDepth 100000 in
theorem m_C_ware {g : xG} {nx : Nat} {sh : Nat → Nat × Nat} {P : Nat → Nat → Option Nat} {I : Nat → Nat → Int32} (hx : xFx sh P) {s : Nat → Int32} (hW : xWN nx sh P I s) (hR : RI s) {x : Int32} : xMet g Y_C_ware 3 0 0 [.ref 64, .int x] (nx, sh, P, I) (fun r σ => ∃ I1 : Nat → Nat → Int32, r = some (.int (a_ware s x)) ∧ σ = (nx, sh, P, I1) ∧ xWN nx sh P I1 (s_ware s x) ∧ xFrm [70, 71] I I1) := by
  refine xMet.of [some (.ref 64), some (.int x), none] (by decide +kernel) (Nat.le_of_ble_eq_true rfl) rfl ?_
  obtain ⟨⟨tTape, tCoins, tWares, tBuys, tSlates, tPlans, tBooked⟩, ⟨cTape, cCoins, cWares, cBuys, cSlates, cPlans, cBooked⟩, hW7, hW9, hL⟩ := id hW
  obtain ⟨⟨n0, b0, e0⟩, ⟨n1, b1, e1⟩, ⟨n2, b2, e2⟩, ⟨n3, b3, e3⟩, ⟨n4, b4, e4⟩, ⟨n5, b5, e5⟩, ⟨n6, b6, e6⟩, ⟨n7, b7, e7⟩, ⟨n9, b9, e9⟩⟩ := hR.k
  have k7 : cN s 7 = n7 := cN_of e7 (by omega)
  rw [k7] at tTape cTape
  have k0 : cN s 0 = n0 := cN_of e0 (by omega)
  rw [k0] at tCoins cCoins
  have k1 : cN s 1 = n1 := cN_of e1 (by omega)
  rw [k1] at tWares cWares
  have k3 : cN s 3 = n3 := cN_of e3 (by omega)
  rw [k3] at tBuys cBuys
  have k4 : cN s 4 = n4 := cN_of e4 (by omega)
  rw [k4] at tSlates cSlates
  have k5 : cN s 5 = n5 := cN_of e5 (by omega)
  rw [k5] at tPlans cPlans
  have k6 : cN s 6 = n6 := cN_of e6 (by omega)
  rw [k6] at tBooked cBooked
  refine x_iload_n dX10_ware_0 rfl ?_
  refine x_iconst (v := 1) dX10_ware_1 (by decide) ?_
  refine x_bipush (v := 60) dX10_ware_2 (by decide) ?_
  refine x_callS (k2 := 0) (n2 := 0) dX10_ware_4 LS_C_71 m_C_isOutside rfl rfl (Nat.le_of_ble_eq_true rfl) (Nat.le_of_ble_eq_true rfl) (Nat.le_of_ble_eq_true rfl) (Nat.le_of_ble_eq_true rfl) ?_
  rintro _ _ ⟨rfl, rfl⟩
  refine x_if_eq (tgt := 13) dX10_ware_7 rfl (fun c7 => ?_) (fun c7 => ?_)
  · refine x_aload_n dX10_ware_13 rfl ?_
    refine y_getr dX10_ware_14 F_C_12 (fxo_64 hx) rfl (fxp_64_0 hx) ?_
    refine y_getr dX10_ware_17 F_C_56 (fxo_65 hx) rfl (fxp_65_2 hx) ?_
    refine x_callV (k2 := 0) (n2 := 0) dX10_ware_20 LV_C_75 (m_Table_isFull tWares) rfl rfl (fxo_70 hx) rfl (Nat.le_of_ble_eq_true rfl) (Nat.le_of_ble_eq_true rfl) (Nat.le_of_ble_eq_true rfl) (Nat.le_of_ble_eq_true rfl) ?_
    rintro _ _ ⟨rfl, rfl⟩
    refine x_if_eq (tgt := 29) dX10_ware_23 rfl (fun c23 => ?_) (fun c23 => ?_)
    · have hnL : n1 < 5 := Nat.lt_of_not_le (b_f c23)
      have hnm : ¬ nI n1 = 5 := fun z => by have := (nI_eqI (b := 5) (by omega) (by decide)).mp z; omega
      refine x_aload_n dX10_ware_29 rfl ?_
      refine y_getr dX10_ware_30 F_C_12 (fxo_64 hx) rfl (fxp_64_0 hx) ?_
      refine y_getr dX10_ware_33 F_C_56 (fxo_65 hx) rfl (fxp_65_2 hx) ?_
      refine x_callV (k2 := 0) (n2 := 0) dX10_ware_36 LV_C_81 (m_Table_add tWares hnL) rfl rfl (fxo_70 hx) rfl (Nat.le_of_ble_eq_true rfl) (Nat.le_of_ble_eq_true rfl) (Nat.le_of_ble_eq_true rfl) (Nat.le_of_ble_eq_true rfl) ?_
      rintro _ _ ⟨rfl, rfl⟩
      rw [apF_0 (vs := [0]) (fun q hq => by match q, hq with | 0, _ => rfl)]
      refine x_istore_n dX10_ware_39 (Nat.le_of_ble_eq_true rfl) ?_
      try simp only [xst, xst2, xclr, xset, xwide]
      refine x_aload_n dX10_ware_40 rfl ?_
      refine y_getr dX10_ware_41 F_C_12 (fxo_64 hx) rfl (fxp_64_0 hx) ?_
      refine y_getr dX10_ware_44 F_C_56 (fxo_65 hx) rfl (fxp_65_2 hx) ?_
      refine x_iload_n dX10_ware_47 rfl ?_
      refine x_iconst (v := 0) dX10_ware_48 (by decide) ?_
      refine x_iload_n dX10_ware_49 rfl ?_
      refine x_callV (k2 := 0) (n2 := 0) dX10_ware_50 LV_C_85 (m_Table_put (r := n1) (q := 0) (tWares.app hnL) (by omega) (by decide)) rfl rfl (fxo_70 hx) rfl (Nat.le_of_ble_eq_true rfl) (Nat.le_of_ble_eq_true rfl) (Nat.le_of_ble_eq_true rfl) (Nat.le_of_ble_eq_true rfl) ?_
      rintro _ _ ⟨rfl, rfl⟩
      rw [xup_row, va_up_at, apF_s (vs' := [x]) (by decide) (fun q hq => by match q, hq with | 0, _ => rfl)]
      refine x_pop dX10_ware_53 rfl ?_
      refine x_iload_n dX10_ware_54 rfl ?_
      refine x_ireturn dX10_ware_55 rfl nb_int ?_
      have hs : s_ware s x = upd (upd s (42 + n1) x) 1 (nI (n1 + 1)) := by unfold s_ware; rw [if_pos ⟨o_t c7, by rw [e1]; exact hnm⟩, k1, e1, nI_1]
      have ht : cN (s_ware s x) 1 = n1 + 1 := cN_of (by rw [hs]; exact upd_e) (by omega)
      have hA : ∀ j, j ≠ 42 + n1 → j ≠ 1 → (s_ware s x) j = s j := fun j q0 q1 => by rw [hs, upd_n q1, upd_n q0]
      obtain ⟨I1, hI1⟩ : ∃ I1, I1 = va_up (xup I 70 3 (nI (n1 + 1))) 71 (apF (I 71) n1 1 [x]) := ⟨_, rfl⟩
      have hF : xFrm [70, 71] I I1 := by rw [hI1]; exact xFrv (xFrs xFrm.rf)
      have hT : xTb sh P I1 70 71 1 5 (cN (s_ware s x) 1) := by rw [ht, hI1]; exact tWares.app hnL
      exact ⟨I1, by unfold a_ware; rw [if_pos (o_t c7), if_neg (show ¬ s 1 = _ by rw [e1]; exact hnm), e1], by rw [hI1], hW.mst hR (Or.inl ⟨hF 66 (by decide), hF 67 (by decide), (hA 7 (by omega) (by omega)), fun j _ _ => (hA j (by omega) (by omega))⟩) (Or.inl ⟨hF 68 (by decide), hF 69 (by decide), (hA 0 (by omega) (by omega)), fun j _ _ => (hA j (by omega) (by omega))⟩) (Or.inr ⟨hT, (by rw [hI1, hs]; rw [hs] at ht; exact (fun i hi => by
            rw [ht] at hi
            rw [va_up_at]
            by_cases hin2 : i = n1
            · rw [hin2, apF_n (by decide)]; rw [upd_n (by omega), upd_e]; rfl
            · rw [apF_o (by omega) (by decide), cWares i (by omega), upd_n (by omega), upd_n (by omega)]))⟩) (Or.inl ⟨hF 72 (by decide), hF 73 (by decide), (hA 3 (by omega) (by omega)), fun j _ _ => (hA j (by omega) (by omega))⟩) (Or.inl ⟨hF 74 (by decide), hF 75 (by decide), (hA 4 (by omega) (by omega)), fun j _ _ => (hA j (by omega) (by omega))⟩) (Or.inl ⟨hF 76 (by decide), hF 77 (by decide), (hA 5 (by omega) (by omega)), fun j _ _ => (hA j (by omega) (by omega))⟩) (Or.inl ⟨hF 78 (by decide), hF 79 (by decide), (hA 6 (by omega) (by omega)), fun j _ _ => (hA j (by omega) (by omega))⟩) ((congrFun (hF 65 (by decide)) 7).trans (hW7.trans (hA 2 (by omega) (by omega)).symm)) ((congrFun (hF 65 (by decide)) 9).trans (hW9.trans (hA 9 (by omega) (by omega)).symm)) ⟨fun a ha => hF a (fun z => by simp only [List.mem_cons, List.not_mem_nil, or_false] at z; omega), (hA 8 (by omega) (by omega)), fun j hj => (hA j (by omega) (by omega))⟩, hF⟩
    · have hnm : nI n1 = 5 := by have h9 := b_t c23; rw [show n1 = 5 by omega]; rfl
      refine x_bipush (v := (-4)) dX10_ware_26 (by decide) ?_
      refine x_ireturn dX10_ware_28 rfl nb_int ?_
      exact ⟨I, by unfold a_ware; rw [if_pos (o_t c7), if_pos (show s 1 = 5 by rw [e1]; exact hnm)], rfl, by unfold s_ware; rw [if_neg (fun z => z.2 (by rw [e1]; exact hnm))]; exact hW, xFrm.rf⟩
  · refine x_bipush (v := (-2)) dX10_ware_10 (by decide) ?_
    refine x_ireturn dX10_ware_12 rfl nb_int ?_
    exact ⟨I, by unfold a_ware; rw [if_neg (o_f c7)], rfl, by unfold s_ware; rw [if_neg (fun z => o_f c7 z.1)]; exact hW, xFrm.rf⟩

set_option maxHeartbeats 4000000 in
set_option maxRecDepth 100000 in
theorem m_C_plan {g : xG} {nx : Nat} {sh : Nat → Nat × Nat} {P : Nat → Nat → Option Nat} {I : Nat → Nat → Int32} (hx : xFx sh P) {s : Nat → Int32} (hW : xWN nx sh P I s) (hR : RI s) {x : Int32} : xMet g Y_C_plan 3 0 0 [.ref 64, .int x] (nx, sh, P, I) (fun r σ => ∃ I1 : Nat → Nat → Int32, r = some (.int (a_plan s x)) ∧ σ = (nx, sh, P, I1) ∧ xWN nx sh P I1 (s_plan s x) ∧ xFrm [76, 77] I I1) := by
  refine xMet.of [some (.ref 64), some (.int x)] (by decide +kernel) (Nat.le_of_ble_eq_true rfl) rfl ?_
  obtain ⟨⟨tTape, tCoins, tWares, tBuys, tSlates, tPlans, tBooked⟩, ⟨cTape, cCoins, cWares, cBuys, cSlates, cPlans, cBooked⟩, hW7, hW9, hL⟩ := id hW
  obtain ⟨⟨n0, b0, e0⟩, ⟨n1, b1, e1⟩, ⟨n2, b2, e2⟩, ⟨n3, b3, e3⟩, ⟨n4, b4, e4⟩, ⟨n5, b5, e5⟩, ⟨n6, b6, e6⟩, ⟨n7, b7, e7⟩, ⟨n9, b9, e9⟩⟩ := hR.k
  have k7 : cN s 7 = n7 := cN_of e7 (by omega)
  rw [k7] at tTape cTape
  have k0 : cN s 0 = n0 := cN_of e0 (by omega)
  rw [k0] at tCoins cCoins
  have k1 : cN s 1 = n1 := cN_of e1 (by omega)
  rw [k1] at tWares cWares
  have k3 : cN s 3 = n3 := cN_of e3 (by omega)
  rw [k3] at tBuys cBuys
  have k4 : cN s 4 = n4 := cN_of e4 (by omega)
  rw [k4] at tSlates cSlates
  have k5 : cN s 5 = n5 := cN_of e5 (by omega)
  rw [k5] at tPlans cPlans
  have k6 : cN s 6 = n6 := cN_of e6 (by omega)
  rw [k6] at tBooked cBooked
  refine x_iload_n dX10_plan_0 rfl ?_
  refine x_iconst (v := (-1)) dX10_plan_1 (by decide) ?_
  refine x_icmp_ne (tgt := 17) dX10_plan_2 rfl (fun c2 => ?_) (fun c2 => ?_)
  · refine x_iload_n dX10_plan_17 rfl ?_
    refine x_iconst (v := 0) dX10_plan_18 (by decide) ?_
    refine x_bipush (v := 99) dX10_plan_19 (by decide) ?_
    refine x_callS (k2 := 0) (n2 := 0) dX10_plan_21 LS_C_71 m_C_isOutside rfl rfl (Nat.le_of_ble_eq_true rfl) (Nat.le_of_ble_eq_true rfl) (Nat.le_of_ble_eq_true rfl) (Nat.le_of_ble_eq_true rfl) ?_
    rintro _ _ ⟨rfl, rfl⟩
    refine x_if_eq (tgt := 30) dX10_plan_24 rfl (fun c24 => ?_) (fun c24 => ?_)
    · refine x_aload_n dX10_plan_30 rfl ?_
      refine y_getr dX10_plan_31 F_C_12 (fxo_64 hx) rfl (fxp_64_0 hx) ?_
      refine y_getr dX10_plan_34 F_C_222 (fxo_65 hx) rfl (fxp_65_5 hx) ?_
      refine x_callV (k2 := 0) (n2 := 0) dX10_plan_37 LV_C_75 (m_Table_isFull tPlans) rfl rfl (fxo_76 hx) rfl (Nat.le_of_ble_eq_true rfl) (Nat.le_of_ble_eq_true rfl) (Nat.le_of_ble_eq_true rfl) (Nat.le_of_ble_eq_true rfl) ?_
      rintro _ _ ⟨rfl, rfl⟩
      refine x_if_eq (tgt := 46) dX10_plan_40 rfl (fun c40 => ?_) (fun c40 => ?_)
      · have hnL : n5 < 6 := Nat.lt_of_not_le (b_f c40)
        have hnm : ¬ nI n5 = 6 := fun z => by have := (nI_eqI (b := 6) (by omega) (by decide)).mp z; omega
        refine x_aload_n dX10_plan_46 rfl ?_
        refine y_getr dX10_plan_47 F_C_12 (fxo_64 hx) rfl (fxp_64_0 hx) ?_
        refine y_getr dX10_plan_50 F_C_222 (fxo_65 hx) rfl (fxp_65_5 hx) ?_
        refine x_aload_n dX10_plan_53 rfl ?_
        refine y_getr dX10_plan_54 F_C_12 (fxo_64 hx) rfl (fxp_64_0 hx) ?_
        refine y_getr dX10_plan_57 F_C_222 (fxo_65 hx) rfl (fxp_65_5 hx) ?_
        refine x_callV (k2 := 0) (n2 := 0) dX10_plan_60 LV_C_81 (m_Table_add tPlans hnL) rfl rfl (fxo_76 hx) rfl (Nat.le_of_ble_eq_true rfl) (Nat.le_of_ble_eq_true rfl) (Nat.le_of_ble_eq_true rfl) (Nat.le_of_ble_eq_true rfl) ?_
        rintro _ _ ⟨rfl, rfl⟩
        rw [apF_0 (vs := [0]) (fun q hq => by match q, hq with | 0, _ => rfl)]
        refine x_iconst (v := 0) dX10_plan_63 (by decide) ?_
        refine x_iload_n dX10_plan_64 rfl ?_
        refine x_callV (k2 := 0) (n2 := 0) dX10_plan_65 LV_C_85 (m_Table_put (r := n5) (q := 0) (tPlans.app hnL) (by omega) (by decide)) rfl rfl (fxo_76 hx) rfl (Nat.le_of_ble_eq_true rfl) (Nat.le_of_ble_eq_true rfl) (Nat.le_of_ble_eq_true rfl) (Nat.le_of_ble_eq_true rfl) ?_
        rintro _ _ ⟨rfl, rfl⟩
        rw [xup_row, va_up_at, apF_s (vs' := [x]) (by decide) (fun q hq => by match q, hq with | 0, _ => rfl)]
        refine x_pop dX10_plan_68 rfl ?_
        refine x_aload_n dX10_plan_69 rfl ?_
        refine y_getr dX10_plan_70 F_C_12 (fxo_64 hx) rfl (fxp_64_0 hx) ?_
        refine y_getr dX10_plan_73 F_C_222 (fxo_65 hx) rfl (fxp_65_5 hx) ?_
        refine x_callV (k2 := 0) (n2 := 0) dX10_plan_76 LV_C_89 (m_Table_rows (tPlans.app hnL)) rfl rfl (fxo_76 hx) rfl (Nat.le_of_ble_eq_true rfl) (Nat.le_of_ble_eq_true rfl) (Nat.le_of_ble_eq_true rfl) (Nat.le_of_ble_eq_true rfl) ?_
        rintro _ _ ⟨rfl, rfl⟩
        refine x_ireturn dX10_plan_79 rfl nb_int ?_
        have hs : s_plan s x = upd (upd s (95 + n5) x) 5 (nI (n5 + 1)) := by unfold s_plan; rw [if_neg c2, if_pos ⟨o_t c24, by rw [e5]; exact hnm⟩, k5, e5, nI_1]
        have ht : cN (s_plan s x) 5 = n5 + 1 := cN_of (by rw [hs]; exact upd_e) (by omega)
        have hA : ∀ j, j ≠ 95 + n5 → j ≠ 5 → (s_plan s x) j = s j := fun j q0 q1 => by rw [hs, upd_n q1, upd_n q0]
        obtain ⟨I1, hI1⟩ : ∃ I1, I1 = va_up (xup I 76 3 (nI (n5 + 1))) 77 (apF (I 77) n5 1 [x]) := ⟨_, rfl⟩
        have hF : xFrm [76, 77] I I1 := by rw [hI1]; exact xFrv (xFrs xFrm.rf)
        have hT : xTb sh P I1 76 77 1 6 (cN (s_plan s x) 5) := by rw [ht, hI1]; exact tPlans.app hnL
        exact ⟨I1, by unfold a_plan; rw [if_neg c2, if_pos (o_t c24), if_neg (show ¬ s 5 = _ by rw [e5]; exact hnm), e5, nI_1], by rw [hI1], hW.mst hR (Or.inl ⟨hF 66 (by decide), hF 67 (by decide), (hA 7 (by omega) (by omega)), fun j _ _ => (hA j (by omega) (by omega))⟩) (Or.inl ⟨hF 68 (by decide), hF 69 (by decide), (hA 0 (by omega) (by omega)), fun j _ _ => (hA j (by omega) (by omega))⟩) (Or.inl ⟨hF 70 (by decide), hF 71 (by decide), (hA 1 (by omega) (by omega)), fun j _ _ => (hA j (by omega) (by omega))⟩) (Or.inl ⟨hF 72 (by decide), hF 73 (by decide), (hA 3 (by omega) (by omega)), fun j _ _ => (hA j (by omega) (by omega))⟩) (Or.inl ⟨hF 74 (by decide), hF 75 (by decide), (hA 4 (by omega) (by omega)), fun j _ _ => (hA j (by omega) (by omega))⟩) (Or.inr ⟨hT, (by rw [hI1, hs]; rw [hs] at ht; exact (fun i hi => by
              rw [ht] at hi
              rw [va_up_at]
              by_cases hin2 : i = n5
              · rw [hin2, apF_n (by decide)]; rw [upd_n (by omega), upd_e]; rfl
              · rw [apF_o (by omega) (by decide), cPlans i (by omega), upd_n (by omega), upd_n (by omega)]))⟩) (Or.inl ⟨hF 78 (by decide), hF 79 (by decide), (hA 6 (by omega) (by omega)), fun j _ _ => (hA j (by omega) (by omega))⟩) ((congrFun (hF 65 (by decide)) 7).trans (hW7.trans (hA 2 (by omega) (by omega)).symm)) ((congrFun (hF 65 (by decide)) 9).trans (hW9.trans (hA 9 (by omega) (by omega)).symm)) ⟨fun a ha => hF a (fun z => by simp only [List.mem_cons, List.not_mem_nil, or_false] at z; omega), (hA 8 (by omega) (by omega)), fun j hj => (hA j (by omega) (by omega))⟩, hF⟩
      · have hnm : nI n5 = 6 := by have h9 := b_t c40; rw [show n5 = 6 by omega]; rfl
        refine x_bipush (v := (-4)) dX10_plan_43 (by decide) ?_
        refine x_ireturn dX10_plan_45 rfl nb_int ?_
        exact ⟨I, by unfold a_plan; rw [if_neg c2, if_pos (o_t c24), if_pos (show s 5 = 6 by rw [e5]; exact hnm)], rfl, by unfold s_plan; rw [if_neg c2, if_neg (fun z => z.2 (by rw [e5]; exact hnm))]; exact hW, xFrm.rf⟩
    · refine x_bipush (v := (-2)) dX10_plan_27 (by decide) ?_
      refine x_ireturn dX10_plan_29 rfl nb_int ?_
      exact ⟨I, by unfold a_plan; rw [if_neg c2, if_neg (o_f c24)], rfl, by unfold s_plan; rw [if_neg c2, if_neg (fun z => o_f c24 z.1)]; exact hW, xFrm.rf⟩
  · refine x_aload_n dX10_plan_5 rfl ?_
    refine y_getr dX10_plan_6 F_C_12 (fxo_64 hx) rfl (fxp_64_0 hx) ?_
    refine y_getr dX10_plan_9 F_C_222 (fxo_65 hx) rfl (fxp_65_5 hx) ?_
    refine x_callV (k2 := 0) (n2 := 0) dX10_plan_12 LV_C_100 (m_Table_clear tPlans) rfl rfl (fxo_76 hx) rfl (Nat.le_of_ble_eq_true rfl) (Nat.le_of_ble_eq_true rfl) (Nat.le_of_ble_eq_true rfl) (Nat.le_of_ble_eq_true rfl) ?_
    rintro _ _ ⟨rfl, rfl⟩
    refine x_iconst (v := 0) dX10_plan_15 (by decide) ?_
    refine x_ireturn dX10_plan_16 rfl nb_int ?_
    have hs : s_plan s x = upd s 5 0 := by unfold s_plan; rw [if_pos c2]
    have ht : cN (s_plan s x) 5 = 0 := cN_of (n := 0) (by rw [hs]; exact upd_e) (by omega)
    have hA : ∀ j, j ≠ 5 → (s_plan s x) j = s j := fun j q0 => by rw [hs, upd_n q0]
    obtain ⟨I1, hI1⟩ : ∃ I1, I1 = xup I 76 3 0 := ⟨_, rfl⟩
    have hF : xFrm [76] I I1 := by rw [hI1]; exact xFrs xFrm.rf
    have hT : xTb sh P I1 76 77 1 6 (cN (s_plan s x) 5) := by rw [ht, hI1]; exact tPlans.rows (m := 0) (Nat.zero_le _)
    exact ⟨I1, by unfold a_plan; rw [if_pos c2], by rw [hI1], hW.mst hR (Or.inl ⟨hF 66 (by decide), hF 67 (by decide), (hA 7 (by omega)), fun j _ _ => (hA j (by omega))⟩) (Or.inl ⟨hF 68 (by decide), hF 69 (by decide), (hA 0 (by omega)), fun j _ _ => (hA j (by omega))⟩) (Or.inl ⟨hF 70 (by decide), hF 71 (by decide), (hA 1 (by omega)), fun j _ _ => (hA j (by omega))⟩) (Or.inl ⟨hF 72 (by decide), hF 73 (by decide), (hA 3 (by omega)), fun j _ _ => (hA j (by omega))⟩) (Or.inl ⟨hF 74 (by decide), hF 75 (by decide), (hA 4 (by omega)), fun j _ _ => (hA j (by omega))⟩) (Or.inr ⟨hT, (fun i hi => by rw [ht] at hi; exact absurd hi (Nat.not_lt_zero _))⟩) (Or.inl ⟨hF 78 (by decide), hF 79 (by decide), (hA 6 (by omega)), fun j _ _ => (hA j (by omega))⟩) ((congrFun (hF 65 (by decide)) 7).trans (hW7.trans (hA 2 (by omega)).symm)) ((congrFun (hF 65 (by decide)) 9).trans (hW9.trans (hA 9 (by omega)).symm)) ⟨fun a ha => hF a (fun z => by simp only [List.mem_cons, List.not_mem_nil, or_false] at z; omega), (hA 8 (by omega)), fun j hj => (hA j (by omega))⟩, hF.mono⟩

set_option maxHeartbeats 4000000 in
set_option maxRecDepth 100000 in
theorem m_C_book {g : xG} {nx : Nat} {sh : Nat → Nat × Nat} {P : Nat → Nat → Option Nat} {I : Nat → Nat → Int32} (hx : xFx sh P) {s : Nat → Int32} (hW : xWN nx sh P I s) (hR : RI s) {x v : Int32} : xMet g Y_C_book 3 0 0 [.ref 64, .int x, .int v] (nx, sh, P, I) (fun r σ => ∃ I1 : Nat → Nat → Int32, r = some (.int (a_book s x v)) ∧ σ = (nx, sh, P, I1) ∧ xWN nx sh P I1 (s_book s x v) ∧ xFrm [78, 79] I I1) := by
  refine xMet.of [some (.ref 64), some (.int x), some (.int v), none] (by decide +kernel) (Nat.le_of_ble_eq_true rfl) rfl ?_
  obtain ⟨⟨tTape, tCoins, tWares, tBuys, tSlates, tPlans, tBooked⟩, ⟨cTape, cCoins, cWares, cBuys, cSlates, cPlans, cBooked⟩, hW7, hW9, hL⟩ := id hW
  obtain ⟨⟨n0, b0, e0⟩, ⟨n1, b1, e1⟩, ⟨n2, b2, e2⟩, ⟨n3, b3, e3⟩, ⟨n4, b4, e4⟩, ⟨n5, b5, e5⟩, ⟨n6, b6, e6⟩, ⟨n7, b7, e7⟩, ⟨n9, b9, e9⟩⟩ := hR.k
  have k7 : cN s 7 = n7 := cN_of e7 (by omega)
  rw [k7] at tTape cTape
  have k0 : cN s 0 = n0 := cN_of e0 (by omega)
  rw [k0] at tCoins cCoins
  have k1 : cN s 1 = n1 := cN_of e1 (by omega)
  rw [k1] at tWares cWares
  have k3 : cN s 3 = n3 := cN_of e3 (by omega)
  rw [k3] at tBuys cBuys
  have k4 : cN s 4 = n4 := cN_of e4 (by omega)
  rw [k4] at tSlates cSlates
  have k5 : cN s 5 = n5 := cN_of e5 (by omega)
  rw [k5] at tPlans cPlans
  have k6 : cN s 6 = n6 := cN_of e6 (by omega)
  rw [k6] at tBooked cBooked
  refine x_iload_n dX10_book_0 rfl ?_
  refine x_iconst (v := (-1)) dX10_book_1 (by decide) ?_
  refine x_icmp_ne (tgt := 17) dX10_book_2 rfl (fun c2 => ?_) (fun c2 => ?_)
  · refine x_aload_n dX10_book_17 rfl ?_
    refine y_getr dX10_book_18 F_C_12 (fxo_64 hx) rfl (fxp_64_0 hx) ?_
    refine y_getr dX10_book_21 F_C_110 (fxo_65 hx) rfl (fxp_65_1 hx) ?_
    refine x_iload_n dX10_book_24 rfl ?_
    refine x_callV (k2 := 0) (n2 := 0) dX10_book_25 LV_C_113 (m_Table_has tCoins) rfl rfl (fxo_68 hx) rfl (Nat.le_of_ble_eq_true rfl) (Nat.le_of_ble_eq_true rfl) (Nat.le_of_ble_eq_true rfl) (Nat.le_of_ble_eq_true rfl) ?_
    rintro _ _ ⟨rfl, rfl⟩
    refine x_if_ne (tgt := 33) dX10_book_28 rfl (fun c28 => ?_) (fun c28 => ?_)
    · refine x_iload_n dX10_book_33 rfl ?_
      refine x_iconst (v := 1) dX10_book_34 (by decide) ?_
      refine x_bipush (v := 99) dX10_book_35 (by decide) ?_
      refine x_callS (k2 := 0) (n2 := 0) dX10_book_37 LS_C_71 m_C_isOutside rfl rfl (Nat.le_of_ble_eq_true rfl) (Nat.le_of_ble_eq_true rfl) (Nat.le_of_ble_eq_true rfl) (Nat.le_of_ble_eq_true rfl) ?_
      rintro _ _ ⟨rfl, rfl⟩
      refine x_if_eq (tgt := 46) dX10_book_40 rfl (fun c40 => ?_) (fun c40 => ?_)
      · refine x_aload_n dX10_book_46 rfl ?_
        refine y_getr dX10_book_47 F_C_12 (fxo_64 hx) rfl (fxp_64_0 hx) ?_
        refine y_getr dX10_book_50 F_C_228 (fxo_65 hx) rfl (fxp_65_6 hx) ?_
        refine x_callV (k2 := 0) (n2 := 0) dX10_book_53 LV_C_75 (m_Table_isFull tBooked) rfl rfl (fxo_78 hx) rfl (Nat.le_of_ble_eq_true rfl) (Nat.le_of_ble_eq_true rfl) (Nat.le_of_ble_eq_true rfl) (Nat.le_of_ble_eq_true rfl) ?_
        rintro _ _ ⟨rfl, rfl⟩
        refine x_if_eq (tgt := 62) dX10_book_56 rfl (fun c56 => ?_) (fun c56 => ?_)
        · have hnL : n6 < 8 := Nat.lt_of_not_le (b_f c56)
          have hnm : ¬ nI n6 = 8 := fun z => by have := (nI_eqI (b := 8) (by omega) (by decide)).mp z; omega
          refine x_aload_n dX10_book_62 rfl ?_
          refine y_getr dX10_book_63 F_C_12 (fxo_64 hx) rfl (fxp_64_0 hx) ?_
          refine y_getr dX10_book_66 F_C_228 (fxo_65 hx) rfl (fxp_65_6 hx) ?_
          refine x_callV (k2 := 0) (n2 := 0) dX10_book_69 LV_C_81 (m_Table_add tBooked hnL) rfl rfl (fxo_78 hx) rfl (Nat.le_of_ble_eq_true rfl) (Nat.le_of_ble_eq_true rfl) (Nat.le_of_ble_eq_true rfl) (Nat.le_of_ble_eq_true rfl) ?_
          rintro _ _ ⟨rfl, rfl⟩
          rw [apF_0 (vs := [0, 0]) (fun q hq => by match q, hq with | 0, _ => rfl | 1, _ => rfl)]
          refine x_istore_n dX10_book_72 (Nat.le_of_ble_eq_true rfl) ?_
          try simp only [xst, xst2, xclr, xset, xwide]
          refine x_aload_n dX10_book_73 rfl ?_
          refine y_getr dX10_book_74 F_C_12 (fxo_64 hx) rfl (fxp_64_0 hx) ?_
          refine y_getr dX10_book_77 F_C_228 (fxo_65 hx) rfl (fxp_65_6 hx) ?_
          refine x_iload_n dX10_book_80 rfl ?_
          refine x_iconst (v := 0) dX10_book_81 (by decide) ?_
          refine x_iload_n dX10_book_82 rfl ?_
          refine x_callV (k2 := 0) (n2 := 0) dX10_book_83 LV_C_85 (m_Table_put (r := n6) (q := 0) (tBooked.app hnL) (by omega) (by decide)) rfl rfl (fxo_78 hx) rfl (Nat.le_of_ble_eq_true rfl) (Nat.le_of_ble_eq_true rfl) (Nat.le_of_ble_eq_true rfl) (Nat.le_of_ble_eq_true rfl) ?_
          rintro _ _ ⟨rfl, rfl⟩
          rw [xup_row, va_up_at, apF_s (vs' := [x, 0]) (by decide) (fun q hq => by match q, hq with | 0, _ => rfl | 1, _ => rfl)]
          refine x_pop dX10_book_86 rfl ?_
          refine x_aload_n dX10_book_87 rfl ?_
          refine y_getr dX10_book_88 F_C_12 (fxo_64 hx) rfl (fxp_64_0 hx) ?_
          refine y_getr dX10_book_91 F_C_228 (fxo_65 hx) rfl (fxp_65_6 hx) ?_
          refine x_iload_n dX10_book_94 rfl ?_
          refine x_iconst (v := 1) dX10_book_95 (by decide) ?_
          refine x_iload_n dX10_book_96 rfl ?_
          refine x_callV (k2 := 0) (n2 := 0) dX10_book_97 LV_C_85 (m_Table_put (r := n6) (q := 1) (tBooked.app hnL) (by omega) (by decide)) rfl rfl (fxo_78 hx) rfl (Nat.le_of_ble_eq_true rfl) (Nat.le_of_ble_eq_true rfl) (Nat.le_of_ble_eq_true rfl) (Nat.le_of_ble_eq_true rfl) ?_
          rintro _ _ ⟨rfl, rfl⟩
          rw [xup_row, va_up_at, apF_s (vs' := [x, v]) (by decide) (fun q hq => by match q, hq with | 0, _ => rfl | 1, _ => rfl)]
          refine x_pop dX10_book_100 rfl ?_
          refine x_aload_n dX10_book_101 rfl ?_
          refine y_getr dX10_book_102 F_C_12 (fxo_64 hx) rfl (fxp_64_0 hx) ?_
          refine y_getr dX10_book_105 F_C_228 (fxo_65 hx) rfl (fxp_65_6 hx) ?_
          refine x_callV (k2 := 0) (n2 := 0) dX10_book_108 LV_C_89 (m_Table_rows (tBooked.app hnL)) rfl rfl (fxo_78 hx) rfl (Nat.le_of_ble_eq_true rfl) (Nat.le_of_ble_eq_true rfl) (Nat.le_of_ble_eq_true rfl) (Nat.le_of_ble_eq_true rfl) ?_
          rintro _ _ ⟨rfl, rfl⟩
          refine x_ireturn dX10_book_111 rfl nb_int ?_
          have hs : s_book s x v = upd (upd (upd s (101 + n6) x) (109 + n6) v) 6 (nI (n6 + 1)) := by unfold s_book; rw [if_neg c2, if_pos ⟨(show 0 ≤ x ∧ x < s 0 by rw [e0]; exact b_t c28), o_t c40, by rw [e6]; exact hnm⟩, k6, e6, nI_1]
          have ht : cN (s_book s x v) 6 = n6 + 1 := cN_of (by rw [hs]; exact upd_e) (by omega)
          have hA : ∀ j, j ≠ 101 + n6 → j ≠ 109 + n6 → j ≠ 6 → (s_book s x v) j = s j := fun j q0 q1 q2 => by rw [hs, upd_n q2, upd_n q1, upd_n q0]
          obtain ⟨I1, hI1⟩ : ∃ I1, I1 = va_up (xup I 78 3 (nI (n6 + 1))) 79 (apF (I 79) n6 2 [x, v]) := ⟨_, rfl⟩
          have hF : xFrm [78, 79] I I1 := by rw [hI1]; exact xFrv (xFrs xFrm.rf)
          have hT : xTb sh P I1 78 79 2 8 (cN (s_book s x v) 6) := by rw [ht, hI1]; exact tBooked.app hnL
          exact ⟨I1, by unfold a_book; rw [if_neg c2, if_pos (show 0 ≤ x ∧ x < s 0 by rw [e0]; exact b_t c28), if_pos (o_t c40), if_neg (show ¬ s 6 = _ by rw [e6]; exact hnm), e6, nI_1], by rw [hI1], hW.mst hR (Or.inl ⟨hF 66 (by decide), hF 67 (by decide), (hA 7 (by omega) (by omega) (by omega)), fun j _ _ => (hA j (by omega) (by omega) (by omega))⟩) (Or.inl ⟨hF 68 (by decide), hF 69 (by decide), (hA 0 (by omega) (by omega) (by omega)), fun j _ _ => (hA j (by omega) (by omega) (by omega))⟩) (Or.inl ⟨hF 70 (by decide), hF 71 (by decide), (hA 1 (by omega) (by omega) (by omega)), fun j _ _ => (hA j (by omega) (by omega) (by omega))⟩) (Or.inl ⟨hF 72 (by decide), hF 73 (by decide), (hA 3 (by omega) (by omega) (by omega)), fun j _ _ => (hA j (by omega) (by omega) (by omega))⟩) (Or.inl ⟨hF 74 (by decide), hF 75 (by decide), (hA 4 (by omega) (by omega) (by omega)), fun j _ _ => (hA j (by omega) (by omega) (by omega))⟩) (Or.inl ⟨hF 76 (by decide), hF 77 (by decide), (hA 5 (by omega) (by omega) (by omega)), fun j _ _ => (hA j (by omega) (by omega) (by omega))⟩) (Or.inr ⟨hT, (by rw [hI1, hs]; rw [hs] at ht; exact (fun i hi => by
                rw [ht] at hi
                rw [va_up_at]
                by_cases hin2 : i = n6
                · exact ⟨by rw [hin2, apF_n (by decide)]; rw [upd_n (by omega), upd_n (by omega), upd_e]; rfl, by rw [hin2, apF_n (by decide)]; rw [upd_n (by omega), upd_e]; rfl⟩
                · exact ⟨by rw [apF_o (by omega) (by decide), (cBooked i (by omega)).1, upd_n (by omega), upd_n (by omega), upd_n (by omega)], by rw [apF_o (by omega) (by decide), (cBooked i (by omega)).2, upd_n (by omega), upd_n (by omega), upd_n (by omega)]⟩))⟩) ((congrFun (hF 65 (by decide)) 7).trans (hW7.trans (hA 2 (by omega) (by omega) (by omega)).symm)) ((congrFun (hF 65 (by decide)) 9).trans (hW9.trans (hA 9 (by omega) (by omega) (by omega)).symm)) ⟨fun a ha => hF a (fun z => by simp only [List.mem_cons, List.not_mem_nil, or_false] at z; omega), (hA 8 (by omega) (by omega) (by omega)), fun j hj => (hA j (by omega) (by omega) (by omega))⟩, hF⟩
        · have hnm : nI n6 = 8 := by have h9 := b_t c56; rw [show n6 = 8 by omega]; rfl
          refine x_bipush (v := (-4)) dX10_book_59 (by decide) ?_
          refine x_ireturn dX10_book_61 rfl nb_int ?_
          exact ⟨I, by unfold a_book; rw [if_neg c2, if_pos (show 0 ≤ x ∧ x < s 0 by rw [e0]; exact b_t c28), if_pos (o_t c40), if_pos (show s 6 = 8 by rw [e6]; exact hnm)], rfl, by unfold s_book; rw [if_neg c2, if_neg (fun z => z.2.2 (by rw [e6]; exact hnm))]; exact hW, xFrm.rf⟩
      · refine x_bipush (v := (-2)) dX10_book_43 (by decide) ?_
        refine x_ireturn dX10_book_45 rfl nb_int ?_
        exact ⟨I, by unfold a_book; rw [if_neg c2, if_pos (show 0 ≤ x ∧ x < s 0 by rw [e0]; exact b_t c28), if_neg (o_f c40)], rfl, by unfold s_book; rw [if_neg c2, if_neg (fun z => o_f c40 z.2.1)]; exact hW, xFrm.rf⟩
    · refine x_iconst (v := (-1)) dX10_book_31 (by decide) ?_
      refine x_ireturn dX10_book_32 rfl nb_int ?_
      exact ⟨I, by unfold a_book; rw [if_neg c2, if_neg (show ¬ (0 ≤ x ∧ x < s 0) by rw [e0]; exact b_f c28)], rfl, by unfold s_book; rw [if_neg c2, if_neg (fun z => (show ¬ (0 ≤ x ∧ x < s 0) by rw [e0]; exact b_f c28) z.1)]; exact hW, xFrm.rf⟩
  · refine x_aload_n dX10_book_5 rfl ?_
    refine y_getr dX10_book_6 F_C_12 (fxo_64 hx) rfl (fxp_64_0 hx) ?_
    refine y_getr dX10_book_9 F_C_228 (fxo_65 hx) rfl (fxp_65_6 hx) ?_
    refine x_callV (k2 := 0) (n2 := 0) dX10_book_12 LV_C_100 (m_Table_clear tBooked) rfl rfl (fxo_78 hx) rfl (Nat.le_of_ble_eq_true rfl) (Nat.le_of_ble_eq_true rfl) (Nat.le_of_ble_eq_true rfl) (Nat.le_of_ble_eq_true rfl) ?_
    rintro _ _ ⟨rfl, rfl⟩
    refine x_iconst (v := 0) dX10_book_15 (by decide) ?_
    refine x_ireturn dX10_book_16 rfl nb_int ?_
    have hs : s_book s x v = upd s 6 0 := by unfold s_book; rw [if_pos c2]
    have ht : cN (s_book s x v) 6 = 0 := cN_of (n := 0) (by rw [hs]; exact upd_e) (by omega)
    have hA : ∀ j, j ≠ 6 → (s_book s x v) j = s j := fun j q0 => by rw [hs, upd_n q0]
    obtain ⟨I1, hI1⟩ : ∃ I1, I1 = xup I 78 3 0 := ⟨_, rfl⟩
    have hF : xFrm [78] I I1 := by rw [hI1]; exact xFrs xFrm.rf
    have hT : xTb sh P I1 78 79 2 8 (cN (s_book s x v) 6) := by rw [ht, hI1]; exact tBooked.rows (m := 0) (Nat.zero_le _)
    exact ⟨I1, by unfold a_book; rw [if_pos c2], by rw [hI1], hW.mst hR (Or.inl ⟨hF 66 (by decide), hF 67 (by decide), (hA 7 (by omega)), fun j _ _ => (hA j (by omega))⟩) (Or.inl ⟨hF 68 (by decide), hF 69 (by decide), (hA 0 (by omega)), fun j _ _ => (hA j (by omega))⟩) (Or.inl ⟨hF 70 (by decide), hF 71 (by decide), (hA 1 (by omega)), fun j _ _ => (hA j (by omega))⟩) (Or.inl ⟨hF 72 (by decide), hF 73 (by decide), (hA 3 (by omega)), fun j _ _ => (hA j (by omega))⟩) (Or.inl ⟨hF 74 (by decide), hF 75 (by decide), (hA 4 (by omega)), fun j _ _ => (hA j (by omega))⟩) (Or.inl ⟨hF 76 (by decide), hF 77 (by decide), (hA 5 (by omega)), fun j _ _ => (hA j (by omega))⟩) (Or.inr ⟨hT, (fun i hi => by rw [ht] at hi; exact absurd hi (Nat.not_lt_zero _))⟩) ((congrFun (hF 65 (by decide)) 7).trans (hW7.trans (hA 2 (by omega)).symm)) ((congrFun (hF 65 (by decide)) 9).trans (hW9.trans (hA 9 (by omega)).symm)) ⟨fun a ha => hF a (fun z => by simp only [List.mem_cons, List.not_mem_nil, or_false] at z; omega), (hA 8 (by omega)), fun j hj => (hA j (by omega))⟩, hF.mono⟩

set_option maxHeartbeats 4000000 in
set_option maxRecDepth 100000 in
theorem m_C_slate {g : xG} {nx : Nat} {sh : Nat → Nat × Nat} {P : Nat → Nat → Option Nat} {I : Nat → Nat → Int32} (hx : xFx sh P) {s : Nat → Int32} (hW : xWN nx sh P I s) (hR : RI s) {x z v : Int32} : xMet g Y_C_slate 3 0 0 [.ref 64, .int x, .int z, .int v] (nx, sh, P, I) (fun r σ => ∃ I1 : Nat → Nat → Int32, r = some (.int (a_slate s x z v)) ∧ σ = (nx, sh, P, I1) ∧ xWN nx sh P I1 (s_slate s x z v) ∧ xFrm [74, 75] I I1) := by
  refine xMet.of [some (.ref 64), some (.int x), some (.int z), some (.int v), none] (by decide +kernel) (Nat.le_of_ble_eq_true rfl) rfl ?_
  obtain ⟨⟨tTape, tCoins, tWares, tBuys, tSlates, tPlans, tBooked⟩, ⟨cTape, cCoins, cWares, cBuys, cSlates, cPlans, cBooked⟩, hW7, hW9, hL⟩ := id hW
  obtain ⟨⟨n0, b0, e0⟩, ⟨n1, b1, e1⟩, ⟨n2, b2, e2⟩, ⟨n3, b3, e3⟩, ⟨n4, b4, e4⟩, ⟨n5, b5, e5⟩, ⟨n6, b6, e6⟩, ⟨n7, b7, e7⟩, ⟨n9, b9, e9⟩⟩ := hR.k
  have k7 : cN s 7 = n7 := cN_of e7 (by omega)
  rw [k7] at tTape cTape
  have k0 : cN s 0 = n0 := cN_of e0 (by omega)
  rw [k0] at tCoins cCoins
  have k1 : cN s 1 = n1 := cN_of e1 (by omega)
  rw [k1] at tWares cWares
  have k3 : cN s 3 = n3 := cN_of e3 (by omega)
  rw [k3] at tBuys cBuys
  have k4 : cN s 4 = n4 := cN_of e4 (by omega)
  rw [k4] at tSlates cSlates
  have k5 : cN s 5 = n5 := cN_of e5 (by omega)
  rw [k5] at tPlans cPlans
  have k6 : cN s 6 = n6 := cN_of e6 (by omega)
  rw [k6] at tBooked cBooked
  refine x_iload_n dX10_slate_0 rfl ?_
  refine x_iconst (v := (-1)) dX10_slate_1 (by decide) ?_
  refine x_icmp_ne (tgt := 17) dX10_slate_2 rfl (fun c2 => ?_) (fun c2 => ?_)
  · refine x_iload_n dX10_slate_17 rfl ?_
    refine x_iconst (v := 0) dX10_slate_18 (by decide) ?_
    refine x_bipush (v := 19) dX10_slate_19 (by decide) ?_
    refine x_callS (k2 := 0) (n2 := 0) dX10_slate_21 LS_C_71 m_C_isOutside rfl rfl (Nat.le_of_ble_eq_true rfl) (Nat.le_of_ble_eq_true rfl) (Nat.le_of_ble_eq_true rfl) (Nat.le_of_ble_eq_true rfl) ?_
    rintro _ _ ⟨rfl, rfl⟩
    refine x_if_ne (tgt := 48) dX10_slate_24 rfl (fun c24 => ?_) (fun c24 => ?_)
    · refine x_bipush (v := (-2)) dX10_slate_48 (by decide) ?_
      refine x_ireturn dX10_slate_50 rfl nb_int ?_
      exact ⟨I, by unfold a_slate; rw [if_neg c2, if_neg (show ¬ ((0 ≤ x ∧ x ≤ 19) ∧ (0 ≤ z ∧ z ≤ 19) ∧ 0 ≤ v ∧ v ≤ 399) from by first | exact fun y => o_f c24 y.1 | exact fun y => o_f c34 y.2.1 | exact fun y => o_f c45 y.2.2)], rfl, by unfold s_slate; rw [if_neg c2, if_neg (fun y => (show ¬ ((0 ≤ x ∧ x ≤ 19) ∧ (0 ≤ z ∧ z ≤ 19) ∧ 0 ≤ v ∧ v ≤ 399) from by first | exact fun y => o_f c24 y.1 | exact fun y => o_f c34 y.2.1 | exact fun y => o_f c45 y.2.2) y.1)]; exact hW, xFrm.rf⟩
    · refine x_iload_n dX10_slate_27 rfl ?_
      refine x_iconst (v := 0) dX10_slate_28 (by decide) ?_
      refine x_bipush (v := 19) dX10_slate_29 (by decide) ?_
      refine x_callS (k2 := 0) (n2 := 0) dX10_slate_31 LS_C_71 m_C_isOutside rfl rfl (Nat.le_of_ble_eq_true rfl) (Nat.le_of_ble_eq_true rfl) (Nat.le_of_ble_eq_true rfl) (Nat.le_of_ble_eq_true rfl) ?_
      rintro _ _ ⟨rfl, rfl⟩
      refine x_if_ne (tgt := 48) dX10_slate_34 rfl (fun c34 => ?_) (fun c34 => ?_)
      · refine x_bipush (v := (-2)) dX10_slate_48 (by decide) ?_
        refine x_ireturn dX10_slate_50 rfl nb_int ?_
        exact ⟨I, by unfold a_slate; rw [if_neg c2, if_neg (show ¬ ((0 ≤ x ∧ x ≤ 19) ∧ (0 ≤ z ∧ z ≤ 19) ∧ 0 ≤ v ∧ v ≤ 399) from by first | exact fun y => o_f c24 y.1 | exact fun y => o_f c34 y.2.1 | exact fun y => o_f c45 y.2.2)], rfl, by unfold s_slate; rw [if_neg c2, if_neg (fun y => (show ¬ ((0 ≤ x ∧ x ≤ 19) ∧ (0 ≤ z ∧ z ≤ 19) ∧ 0 ≤ v ∧ v ≤ 399) from by first | exact fun y => o_f c24 y.1 | exact fun y => o_f c34 y.2.1 | exact fun y => o_f c45 y.2.2) y.1)]; exact hW, xFrm.rf⟩
      · refine x_iload_n dX10_slate_37 rfl ?_
        refine x_iconst (v := 0) dX10_slate_38 (by decide) ?_
        refine x_sipush (v := 399) dX10_slate_39 (by decide) ?_
        refine x_callS (k2 := 0) (n2 := 0) dX10_slate_42 LS_C_71 m_C_isOutside rfl rfl (Nat.le_of_ble_eq_true rfl) (Nat.le_of_ble_eq_true rfl) (Nat.le_of_ble_eq_true rfl) (Nat.le_of_ble_eq_true rfl) ?_
        rintro _ _ ⟨rfl, rfl⟩
        refine x_if_eq (tgt := 51) dX10_slate_45 rfl (fun c45 => ?_) (fun c45 => ?_)
        · refine x_aload_n dX10_slate_51 rfl ?_
          refine y_getr dX10_slate_52 F_C_12 (fxo_64 hx) rfl (fxp_64_0 hx) ?_
          refine y_getr dX10_slate_55 F_C_209 (fxo_65 hx) rfl (fxp_65_4 hx) ?_
          refine x_callV (k2 := 0) (n2 := 0) dX10_slate_58 LV_C_75 (m_Table_isFull tSlates) rfl rfl (fxo_74 hx) rfl (Nat.le_of_ble_eq_true rfl) (Nat.le_of_ble_eq_true rfl) (Nat.le_of_ble_eq_true rfl) (Nat.le_of_ble_eq_true rfl) ?_
          rintro _ _ ⟨rfl, rfl⟩
          refine x_if_eq (tgt := 67) dX10_slate_61 rfl (fun c61 => ?_) (fun c61 => ?_)
          · have hnL : n4 < 6 := Nat.lt_of_not_le (b_f c61)
            have hnm : ¬ nI n4 = 6 := fun z => by have := (nI_eqI (b := 6) (by omega) (by decide)).mp z; omega
            refine x_aload_n dX10_slate_67 rfl ?_
            refine y_getr dX10_slate_68 F_C_12 (fxo_64 hx) rfl (fxp_64_0 hx) ?_
            refine y_getr dX10_slate_71 F_C_209 (fxo_65 hx) rfl (fxp_65_4 hx) ?_
            refine x_callV (k2 := 0) (n2 := 0) dX10_slate_74 LV_C_81 (m_Table_add tSlates hnL) rfl rfl (fxo_74 hx) rfl (Nat.le_of_ble_eq_true rfl) (Nat.le_of_ble_eq_true rfl) (Nat.le_of_ble_eq_true rfl) (Nat.le_of_ble_eq_true rfl) ?_
            rintro _ _ ⟨rfl, rfl⟩
            rw [apF_0 (vs := [0, 0, 0]) (fun q hq => by match q, hq with | 0, _ => rfl | 1, _ => rfl | 2, _ => rfl)]
            refine x_istore dX10_slate_77 (Nat.le_of_ble_eq_true rfl) ?_
            try simp only [xst, xst2, xclr, xset, xwide]
            refine x_aload_n dX10_slate_79 rfl ?_
            refine y_getr dX10_slate_80 F_C_12 (fxo_64 hx) rfl (fxp_64_0 hx) ?_
            refine y_getr dX10_slate_83 F_C_209 (fxo_65 hx) rfl (fxp_65_4 hx) ?_
            refine x_iload dX10_slate_86 rfl ?_
            refine x_iconst (v := 0) dX10_slate_88 (by decide) ?_
            refine x_iload_n dX10_slate_89 rfl ?_
            refine x_callV (k2 := 0) (n2 := 0) dX10_slate_90 LV_C_85 (m_Table_put (r := n4) (q := 0) (tSlates.app hnL) (by omega) (by decide)) rfl rfl (fxo_74 hx) rfl (Nat.le_of_ble_eq_true rfl) (Nat.le_of_ble_eq_true rfl) (Nat.le_of_ble_eq_true rfl) (Nat.le_of_ble_eq_true rfl) ?_
            rintro _ _ ⟨rfl, rfl⟩
            rw [xup_row, va_up_at, apF_s (vs' := [x, 0, 0]) (by decide) (fun q hq => by match q, hq with | 0, _ => rfl | 1, _ => rfl | 2, _ => rfl)]
            refine x_pop dX10_slate_93 rfl ?_
            refine x_aload_n dX10_slate_94 rfl ?_
            refine y_getr dX10_slate_95 F_C_12 (fxo_64 hx) rfl (fxp_64_0 hx) ?_
            refine y_getr dX10_slate_98 F_C_209 (fxo_65 hx) rfl (fxp_65_4 hx) ?_
            refine x_iload dX10_slate_101 rfl ?_
            refine x_iconst (v := 1) dX10_slate_103 (by decide) ?_
            refine x_iload_n dX10_slate_104 rfl ?_
            refine x_callV (k2 := 0) (n2 := 0) dX10_slate_105 LV_C_85 (m_Table_put (r := n4) (q := 1) (tSlates.app hnL) (by omega) (by decide)) rfl rfl (fxo_74 hx) rfl (Nat.le_of_ble_eq_true rfl) (Nat.le_of_ble_eq_true rfl) (Nat.le_of_ble_eq_true rfl) (Nat.le_of_ble_eq_true rfl) ?_
            rintro _ _ ⟨rfl, rfl⟩
            rw [xup_row, va_up_at, apF_s (vs' := [x, z, 0]) (by decide) (fun q hq => by match q, hq with | 0, _ => rfl | 1, _ => rfl | 2, _ => rfl)]
            refine x_pop dX10_slate_108 rfl ?_
            refine x_aload_n dX10_slate_109 rfl ?_
            refine y_getr dX10_slate_110 F_C_12 (fxo_64 hx) rfl (fxp_64_0 hx) ?_
            refine y_getr dX10_slate_113 F_C_209 (fxo_65 hx) rfl (fxp_65_4 hx) ?_
            refine x_iload dX10_slate_116 rfl ?_
            refine x_iconst (v := 2) dX10_slate_118 (by decide) ?_
            refine x_iload_n dX10_slate_119 rfl ?_
            refine x_callV (k2 := 0) (n2 := 0) dX10_slate_120 LV_C_85 (m_Table_put (r := n4) (q := 2) (tSlates.app hnL) (by omega) (by decide)) rfl rfl (fxo_74 hx) rfl (Nat.le_of_ble_eq_true rfl) (Nat.le_of_ble_eq_true rfl) (Nat.le_of_ble_eq_true rfl) (Nat.le_of_ble_eq_true rfl) ?_
            rintro _ _ ⟨rfl, rfl⟩
            rw [xup_row, va_up_at, apF_s (vs' := [x, z, v]) (by decide) (fun q hq => by match q, hq with | 0, _ => rfl | 1, _ => rfl | 2, _ => rfl)]
            refine x_pop dX10_slate_123 rfl ?_
            refine x_aload_n dX10_slate_124 rfl ?_
            refine y_getr dX10_slate_125 F_C_12 (fxo_64 hx) rfl (fxp_64_0 hx) ?_
            refine y_getr dX10_slate_128 F_C_209 (fxo_65 hx) rfl (fxp_65_4 hx) ?_
            refine x_callV (k2 := 0) (n2 := 0) dX10_slate_131 LV_C_89 (m_Table_rows (tSlates.app hnL)) rfl rfl (fxo_74 hx) rfl (Nat.le_of_ble_eq_true rfl) (Nat.le_of_ble_eq_true rfl) (Nat.le_of_ble_eq_true rfl) (Nat.le_of_ble_eq_true rfl) ?_
            rintro _ _ ⟨rfl, rfl⟩
            refine x_ireturn dX10_slate_134 rfl nb_int ?_
            have hs : s_slate s x z v = upd (upd (upd (upd s (77 + n4) x) (83 + n4) z) (89 + n4) v) 4 (nI (n4 + 1)) := by unfold s_slate; rw [if_neg c2, if_pos ⟨⟨o_t c24, o_t c34, o_t c45⟩, by rw [e4]; exact hnm⟩, k4, e4, nI_1]
            have ht : cN (s_slate s x z v) 4 = n4 + 1 := cN_of (by rw [hs]; exact upd_e) (by omega)
            have hA : ∀ j, j ≠ 77 + n4 → j ≠ 83 + n4 → j ≠ 89 + n4 → j ≠ 4 → (s_slate s x z v) j = s j := fun j q0 q1 q2 q3 => by rw [hs, upd_n q3, upd_n q2, upd_n q1, upd_n q0]
            obtain ⟨I1, hI1⟩ : ∃ I1, I1 = va_up (xup I 74 3 (nI (n4 + 1))) 75 (apF (I 75) n4 3 [x, z, v]) := ⟨_, rfl⟩
            have hF : xFrm [74, 75] I I1 := by rw [hI1]; exact xFrv (xFrs xFrm.rf)
            have hT : xTb sh P I1 74 75 3 6 (cN (s_slate s x z v) 4) := by rw [ht, hI1]; exact tSlates.app hnL
            exact ⟨I1, by unfold a_slate; rw [if_neg c2, if_pos ⟨o_t c24, o_t c34, o_t c45⟩, if_neg (show ¬ s 4 = _ by rw [e4]; exact hnm), e4, nI_1], by rw [hI1], hW.mst hR (Or.inl ⟨hF 66 (by decide), hF 67 (by decide), (hA 7 (by omega) (by omega) (by omega) (by omega)), fun j _ _ => (hA j (by omega) (by omega) (by omega) (by omega))⟩) (Or.inl ⟨hF 68 (by decide), hF 69 (by decide), (hA 0 (by omega) (by omega) (by omega) (by omega)), fun j _ _ => (hA j (by omega) (by omega) (by omega) (by omega))⟩) (Or.inl ⟨hF 70 (by decide), hF 71 (by decide), (hA 1 (by omega) (by omega) (by omega) (by omega)), fun j _ _ => (hA j (by omega) (by omega) (by omega) (by omega))⟩) (Or.inl ⟨hF 72 (by decide), hF 73 (by decide), (hA 3 (by omega) (by omega) (by omega) (by omega)), fun j _ _ => (hA j (by omega) (by omega) (by omega) (by omega))⟩) (Or.inr ⟨hT, (by rw [hI1, hs]; rw [hs] at ht; exact (fun i hi => by
                  rw [ht] at hi
                  rw [va_up_at]
                  by_cases hin2 : i = n4
                  · exact ⟨by rw [hin2, apF_n (by decide)]; rw [upd_n (by omega), upd_n (by omega), upd_n (by omega), upd_e]; rfl, by rw [hin2, apF_n (by decide)]; rw [upd_n (by omega), upd_n (by omega), upd_e]; rfl, by rw [hin2, apF_n (by decide)]; rw [upd_n (by omega), upd_e]; rfl⟩
                  · exact ⟨by rw [apF_o (by omega) (by decide), (cSlates i (by omega)).1, upd_n (by omega), upd_n (by omega), upd_n (by omega), upd_n (by omega)], by rw [apF_o (by omega) (by decide), (cSlates i (by omega)).2.1, upd_n (by omega), upd_n (by omega), upd_n (by omega), upd_n (by omega)], by rw [apF_o (by omega) (by decide), (cSlates i (by omega)).2.2, upd_n (by omega), upd_n (by omega), upd_n (by omega), upd_n (by omega)]⟩))⟩) (Or.inl ⟨hF 76 (by decide), hF 77 (by decide), (hA 5 (by omega) (by omega) (by omega) (by omega)), fun j _ _ => (hA j (by omega) (by omega) (by omega) (by omega))⟩) (Or.inl ⟨hF 78 (by decide), hF 79 (by decide), (hA 6 (by omega) (by omega) (by omega) (by omega)), fun j _ _ => (hA j (by omega) (by omega) (by omega) (by omega))⟩) ((congrFun (hF 65 (by decide)) 7).trans (hW7.trans (hA 2 (by omega) (by omega) (by omega) (by omega)).symm)) ((congrFun (hF 65 (by decide)) 9).trans (hW9.trans (hA 9 (by omega) (by omega) (by omega) (by omega)).symm)) ⟨fun a ha => hF a (fun z => by simp only [List.mem_cons, List.not_mem_nil, or_false] at z; omega), (hA 8 (by omega) (by omega) (by omega) (by omega)), fun j hj => (hA j (by omega) (by omega) (by omega) (by omega))⟩, hF⟩
          · have hnm : nI n4 = 6 := by have h9 := b_t c61; rw [show n4 = 6 by omega]; rfl
            refine x_bipush (v := (-4)) dX10_slate_64 (by decide) ?_
            refine x_ireturn dX10_slate_66 rfl nb_int ?_
            exact ⟨I, by unfold a_slate; rw [if_neg c2, if_pos ⟨o_t c24, o_t c34, o_t c45⟩, if_pos (show s 4 = 6 by rw [e4]; exact hnm)], rfl, by unfold s_slate; rw [if_neg c2, if_neg (fun y => y.2 (by rw [e4]; exact hnm))]; exact hW, xFrm.rf⟩
        · refine x_bipush (v := (-2)) dX10_slate_48 (by decide) ?_
          refine x_ireturn dX10_slate_50 rfl nb_int ?_
          exact ⟨I, by unfold a_slate; rw [if_neg c2, if_neg (show ¬ ((0 ≤ x ∧ x ≤ 19) ∧ (0 ≤ z ∧ z ≤ 19) ∧ 0 ≤ v ∧ v ≤ 399) from by first | exact fun y => o_f c24 y.1 | exact fun y => o_f c34 y.2.1 | exact fun y => o_f c45 y.2.2)], rfl, by unfold s_slate; rw [if_neg c2, if_neg (fun y => (show ¬ ((0 ≤ x ∧ x ≤ 19) ∧ (0 ≤ z ∧ z ≤ 19) ∧ 0 ≤ v ∧ v ≤ 399) from by first | exact fun y => o_f c24 y.1 | exact fun y => o_f c34 y.2.1 | exact fun y => o_f c45 y.2.2) y.1)]; exact hW, xFrm.rf⟩
  · refine x_aload_n dX10_slate_5 rfl ?_
    refine y_getr dX10_slate_6 F_C_12 (fxo_64 hx) rfl (fxp_64_0 hx) ?_
    refine y_getr dX10_slate_9 F_C_209 (fxo_65 hx) rfl (fxp_65_4 hx) ?_
    refine x_callV (k2 := 0) (n2 := 0) dX10_slate_12 LV_C_100 (m_Table_clear tSlates) rfl rfl (fxo_74 hx) rfl (Nat.le_of_ble_eq_true rfl) (Nat.le_of_ble_eq_true rfl) (Nat.le_of_ble_eq_true rfl) (Nat.le_of_ble_eq_true rfl) ?_
    rintro _ _ ⟨rfl, rfl⟩
    refine x_iconst (v := 0) dX10_slate_15 (by decide) ?_
    refine x_ireturn dX10_slate_16 rfl nb_int ?_
    have hs : s_slate s x z v = upd s 4 0 := by unfold s_slate; rw [if_pos c2]
    have ht : cN (s_slate s x z v) 4 = 0 := cN_of (n := 0) (by rw [hs]; exact upd_e) (by omega)
    have hA : ∀ j, j ≠ 4 → (s_slate s x z v) j = s j := fun j q0 => by rw [hs, upd_n q0]
    obtain ⟨I1, hI1⟩ : ∃ I1, I1 = xup I 74 3 0 := ⟨_, rfl⟩
    have hF : xFrm [74] I I1 := by rw [hI1]; exact xFrs xFrm.rf
    have hT : xTb sh P I1 74 75 3 6 (cN (s_slate s x z v) 4) := by rw [ht, hI1]; exact tSlates.rows (m := 0) (Nat.zero_le _)
    exact ⟨I1, by unfold a_slate; rw [if_pos c2], by rw [hI1], hW.mst hR (Or.inl ⟨hF 66 (by decide), hF 67 (by decide), (hA 7 (by omega)), fun j _ _ => (hA j (by omega))⟩) (Or.inl ⟨hF 68 (by decide), hF 69 (by decide), (hA 0 (by omega)), fun j _ _ => (hA j (by omega))⟩) (Or.inl ⟨hF 70 (by decide), hF 71 (by decide), (hA 1 (by omega)), fun j _ _ => (hA j (by omega))⟩) (Or.inl ⟨hF 72 (by decide), hF 73 (by decide), (hA 3 (by omega)), fun j _ _ => (hA j (by omega))⟩) (Or.inr ⟨hT, (fun i hi => by rw [ht] at hi; exact absurd hi (Nat.not_lt_zero _))⟩) (Or.inl ⟨hF 76 (by decide), hF 77 (by decide), (hA 5 (by omega)), fun j _ _ => (hA j (by omega))⟩) (Or.inl ⟨hF 78 (by decide), hF 79 (by decide), (hA 6 (by omega)), fun j _ _ => (hA j (by omega))⟩) ((congrFun (hF 65 (by decide)) 7).trans (hW7.trans (hA 2 (by omega)).symm)) ((congrFun (hF 65 (by decide)) 9).trans (hW9.trans (hA 9 (by omega)).symm)) ⟨fun a ha => hF a (fun z => by simp only [List.mem_cons, List.not_mem_nil, or_false] at z; omega), (hA 8 (by omega)), fun j hj => (hA j (by omega))⟩, hF.mono⟩
