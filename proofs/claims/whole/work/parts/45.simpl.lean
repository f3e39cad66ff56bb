/-! the class: simple calls -/
theorem o_t {c : Prop} [Decidable c] (h : (if c then (0 : Int32) else 1) = 0) : c := by
  by_cases z : c
  · exact z
  · rw [if_neg z] at h; exact absurd h (by decide)
theorem o_f {c : Prop} [Decidable c] (h : ¬ (if c then (0 : Int32) else 1) = 0) : ¬ c := fun z => h (if_pos z)
set_option maxHeartbeats 4000000 in
set_option maxRecDepth 100000 in
theorem m_C_isOutside {g : xG} {nx : Nat} {sh : Nat → Nat × Nat} {P : Nat → Nat → Option Nat} {I : Nat → Nat → Int32} {x lo hi : Int32} : xMet g Y_C_isOutside 0 0 0 [.int x, .int lo, .int hi] (nx, sh, P, I) (fun r σ => r = some (.int (if lo ≤ x ∧ x ≤ hi then 0 else 1)) ∧ σ = (nx, sh, P, I)) := by
  refine xMet.of [some (.int x), some (.int lo), some (.int hi)] (by decide +kernel) (Nat.le_of_ble_eq_true rfl) rfl ?_
  refine x_iload_n dX10_isOutside_0 rfl ?_
  refine x_iload_n dX10_isOutside_1 rfl ?_
  refine x_icmp_lt (tgt := 10) dX10_isOutside_2 rfl (fun c2 => ?_) (fun c2 => ?_)
  · refine x_iconst (v := 1) dX10_isOutside_10 (by decide) ?_
    refine x_goto (tgt := 15) dX10_isOutside_11 rfl ?_
    refine x_ireturn dX10_isOutside_15 rfl rfl ?_
    exact ⟨by grind, rfl⟩
  · refine x_iload_n dX10_isOutside_5 rfl ?_
    refine x_iload_n dX10_isOutside_6 rfl ?_
    refine x_icmp_le (tgt := 14) dX10_isOutside_7 rfl (fun c7 => ?_) (fun c7 => ?_)
    · refine x_iconst (v := 0) dX10_isOutside_14 (by decide) ?_
      refine x_ireturn dX10_isOutside_15 rfl rfl ?_
      exact ⟨by grind, rfl⟩
    · refine x_iconst (v := 1) dX10_isOutside_10 (by decide) ?_
      refine x_goto (tgt := 15) dX10_isOutside_11 rfl ?_
      refine x_ireturn dX10_isOutside_15 rfl rfl ?_
      exact ⟨by grind, rfl⟩

set_option maxHeartbeats 4000000 in
set_option maxRecDepth 100000 in
theorem m_C_feed {g : xG} {nx : Nat} {sh : Nat → Nat × Nat} {P : Nat → Nat → Option Nat} {I : Nat → Nat → Int32} (hx : xFx sh P) {s : Nat → Int32} (hW : xWN nx sh P I s) (hR : RI s) {x : Int32} : xMet g Y_C_feed 3 0 0 [.ref 64, .int x] (nx, sh, P, I) (fun r σ => ∃ I1 : Nat → Nat → Int32, r = some (.int (a_feed s x)) ∧ σ = (nx, sh, P, I1) ∧ xWN nx sh P I1 (s_feed s x) ∧ xFrm [66, 67] I I1) := by
  refine xMet.of [some (.ref 64), some (.int x)] (by decide +kernel) (Nat.le_of_ble_eq_true rfl) rfl ?_
  obtain ⟨⟨tTape, tCoins, tWares, tBuys, tSlates, tPlans, tBooked⟩, ⟨cTape, cCoins, cWares, cBuys, cSlates, cPlans, cBooked⟩, hW7, hW9, hL⟩ := id hW
  obtain ⟨⟨n0, b0, e0⟩, ⟨n1, b1, e1⟩, ⟨n2, b2, e2⟩, ⟨n3, b3, e3⟩, ⟨n4, b4, e4⟩, ⟨n5, b5, e5⟩, ⟨n6, b6, e6⟩, ⟨n7, b7, e7⟩, ⟨n9, b9, e9⟩⟩ := hR.k
  have k7 : cN s 7 = n7 := cN_of e7 (by omega)
  rw [k7] at tTape cTape
  have k0 : cN s 0 = n0 := cN_of e0 (by omega)
  rw [k0] at tCoins cCoins
  have k1 : cN s 1 = n1 := cN_of e1 (by omega)
  rw [k1] at tWares cWares
  have k3 : cN s 3 = n3 := cN_of e3 (by omega)
  rw [k3] at tBuys cBuys
  have k4 : cN s 4 = n4 := cN_of e4 (by omega)
  rw [k4] at tSlates cSlates
  have k5 : cN s 5 = n5 := cN_of e5 (by omega)
  rw [k5] at tPlans cPlans
  have k6 : cN s 6 = n6 := cN_of e6 (by omega)
  rw [k6] at tBooked cBooked
  refine x_iload_n dX10_feed_0 rfl ?_
  refine x_iconst (v := 0) dX10_feed_1 (by decide) ?_
  refine x_bipush (v := 127) dX10_feed_2 (by decide) ?_
  refine x_callS (k2 := 0) (n2 := 0) dX10_feed_4 LS_C_71 m_C_isOutside rfl rfl (Nat.le_of_ble_eq_true rfl) (Nat.le_of_ble_eq_true rfl) (Nat.le_of_ble_eq_true rfl) (Nat.le_of_ble_eq_true rfl) ?_
  rintro _ _ ⟨rfl, rfl⟩
  refine x_if_eq (tgt := 13) dX10_feed_7 rfl (fun c7 => ?_) (fun c7 => ?_)
  · refine x_aload_n dX10_feed_13 rfl ?_
    refine y_getr dX10_feed_14 F_C_12 (fxo_64 hx) rfl (fxp_64_0 hx) ?_
    refine y_getr dX10_feed_17 F_C_27 (fxo_65 hx) rfl (fxp_65_0 hx) ?_
    refine x_callV (k2 := 0) (n2 := 0) dX10_feed_20 LV_C_75 (m_Table_isFull tTape) rfl rfl (fxo_66 hx) rfl (Nat.le_of_ble_eq_true rfl) (Nat.le_of_ble_eq_true rfl) (Nat.le_of_ble_eq_true rfl) (Nat.le_of_ble_eq_true rfl) ?_
    rintro _ _ ⟨rfl, rfl⟩
    refine x_if_eq (tgt := 29) dX10_feed_23 rfl (fun c23 => ?_) (fun c23 => ?_)
    · have hnL : n7 < 100 := Nat.lt_of_not_le (b_f c23)
      have hnm : ¬ nI n7 = 100 := fun z => by have := (nI_eqI (b := 100) (by omega) (by decide)).mp z; omega
      refine x_aload_n dX10_feed_29 rfl ?_
      refine y_getr dX10_feed_30 F_C_12 (fxo_64 hx) rfl (fxp_64_0 hx) ?_
      refine y_getr dX10_feed_33 F_C_27 (fxo_65 hx) rfl (fxp_65_0 hx) ?_
      refine x_aload_n dX10_feed_36 rfl ?_
      refine y_getr dX10_feed_37 F_C_12 (fxo_64 hx) rfl (fxp_64_0 hx) ?_
      refine y_getr dX10_feed_40 F_C_27 (fxo_65 hx) rfl (fxp_65_0 hx) ?_
      refine x_callV (k2 := 0) (n2 := 0) dX10_feed_43 LV_C_81 (m_Table_add tTape hnL) rfl rfl (fxo_66 hx) rfl (Nat.le_of_ble_eq_true rfl) (Nat.le_of_ble_eq_true rfl) (Nat.le_of_ble_eq_true rfl) (Nat.le_of_ble_eq_true rfl) ?_
      rintro _ _ ⟨rfl, rfl⟩
      rw [apF_0 (vs := [0]) (fun q hq => by match q, hq with | 0, _ => rfl)]
      refine x_iconst (v := 0) dX10_feed_46 (by decide) ?_
      refine x_iload_n dX10_feed_47 rfl ?_
      refine x_callV (k2 := 0) (n2 := 0) dX10_feed_48 LV_C_85 (m_Table_put (r := n7) (q := 0) (tTape.app hnL) (by omega) (by decide)) rfl rfl (fxo_66 hx) rfl (Nat.le_of_ble_eq_true rfl) (Nat.le_of_ble_eq_true rfl) (Nat.le_of_ble_eq_true rfl) (Nat.le_of_ble_eq_true rfl) ?_
      rintro _ _ ⟨rfl, rfl⟩
      rw [xup_row, va_up_at, apF_s (vs' := [x]) (by decide) (fun q hq => by match q, hq with | 0, _ => rfl)]
      refine x_pop dX10_feed_51 rfl ?_
      refine x_aload_n dX10_feed_52 rfl ?_
      refine y_getr dX10_feed_53 F_C_12 (fxo_64 hx) rfl (fxp_64_0 hx) ?_
      refine y_getr dX10_feed_56 F_C_27 (fxo_65 hx) rfl (fxp_65_0 hx) ?_
      refine x_callV (k2 := 0) (n2 := 0) dX10_feed_59 LV_C_89 (m_Table_rows (tTape.app hnL)) rfl rfl (fxo_66 hx) rfl (Nat.le_of_ble_eq_true rfl) (Nat.le_of_ble_eq_true rfl) (Nat.le_of_ble_eq_true rfl) (Nat.le_of_ble_eq_true rfl) ?_
      rintro _ _ ⟨rfl, rfl⟩
      refine x_ireturn dX10_feed_62 rfl nb_int ?_
      have hs : s_feed s x = upd (upd s (117 + n7) x) 7 (nI (n7 + 1)) := by unfold s_feed; rw [if_pos ⟨o_t c7, by rw [e7]; exact hnm⟩, k7, e7, nI_1]
      have ht : cN (s_feed s x) 7 = n7 + 1 := cN_of (by rw [hs]; exact upd_e) (by omega)
      have hA : ∀ j, j ≠ 117 + n7 → j ≠ 7 → (s_feed s x) j = s j := fun j q0 q1 => by rw [hs, upd_n q1, upd_n q0]
      obtain ⟨I1, hI1⟩ : ∃ I1, I1 = va_up (xup I 66 3 (nI (n7 + 1))) 67 (apF (I 67) n7 1 [x]) := ⟨_, rfl⟩
      have hF : xFrm [66, 67] I I1 := by rw [hI1]; exact xFrv (xFrs xFrm.rf)
      have hT : xTb sh P I1 66 67 1 100 (cN (s_feed s x) 7) := by rw [ht, hI1]; exact tTape.app hnL
      exact ⟨I1, by unfold a_feed; rw [if_pos (o_t c7), if_neg (show ¬ s 7 = _ by rw [e7]; exact hnm), e7, nI_1], by rw [hI1], hW.mst hR (Or.inr ⟨hT, (by rw [hI1, hs]; rw [hs] at ht; exact (fun i hi => by
            rw [ht] at hi
            rw [va_up_at]
            by_cases hin2 : i = n7
            · rw [hin2, apF_n (by decide)]; rw [upd_n (by omega), upd_e]; rfl
            · rw [apF_o (by omega) (by decide), cTape i (by omega), upd_n (by omega), upd_n (by omega)]))⟩) (Or.inl ⟨hF 68 (by decide), hF 69 (by decide), (hA 0 (by omega) (by omega)), fun j _ _ => (hA j (by omega) (by omega))⟩) (Or.inl ⟨hF 70 (by decide), hF 71 (by decide), (hA 1 (by omega) (by omega)), fun j _ _ => (hA j (by omega) (by omega))⟩) (Or.inl ⟨hF 72 (by decide), hF 73 (by decide), (hA 3 (by omega) (by omega)), fun j _ _ => (hA j (by omega) (by omega))⟩) (Or.inl ⟨hF 74 (by decide), hF 75 (by decide), (hA 4 (by omega) (by omega)), fun j _ _ => (hA j (by omega) (by omega))⟩) (Or.inl ⟨hF 76 (by decide), hF 77 (by decide), (hA 5 (by omega) (by omega)), fun j _ _ => (hA j (by omega) (by omega))⟩) (Or.inl ⟨hF 78 (by decide), hF 79 (by decide), (hA 6 (by omega) (by omega)), fun j _ _ => (hA j (by omega) (by omega))⟩) ((congrFun (hF 65 (by decide)) 7).trans (hW7.trans (hA 2 (by omega) (by omega)).symm)) ((congrFun (hF 65 (by decide)) 9).trans (hW9.trans (hA 9 (by omega) (by omega)).symm)) ⟨fun a ha => hF a (fun z => by simp only [List.mem_cons, List.not_mem_nil, or_false] at z; omega), (hA 8 (by omega) (by omega)), fun j hj => (hA j (by omega) (by omega))⟩, hF⟩
    · have hnm : nI n7 = 100 := by have h9 := b_t c23; rw [show n7 = 100 by omega]; rfl
      refine x_bipush (v := (-4)) dX10_feed_26 (by decide) ?_
      refine x_ireturn dX10_feed_28 rfl nb_int ?_
      exact ⟨I, by unfold a_feed; rw [if_pos (o_t c7), if_pos (show s 7 = 100 by rw [e7]; exact hnm)], rfl, by unfold s_feed; rw [if_neg (fun z => z.2 (by rw [e7]; exact hnm))]; exact hW, xFrm.rf⟩
  · refine x_bipush (v := (-2)) dX10_feed_10 (by decide) ?_
    refine x_ireturn dX10_feed_12 rfl nb_int ?_
    exact ⟨I, by unfold a_feed; rw [if_neg (o_f c7)], rfl, by unfold s_feed; rw [if_neg (fun z => o_f c7 z.1)]; exact hW, xFrm.rf⟩

set_option maxHeartbeats 4000000 in
set_option maxRecDepth 100000 in
theorem m_C_ware {g : xG} {nx : Nat} {sh : Nat → Nat × Nat} {P : Nat → Nat → Option Nat} {I : Nat → Nat → Int32} (hx : xFx sh P) {s : Nat → Int32} (hW : xWN nx sh P I s) (hR : RI s) {x : Int32} : xMet g Y_C_ware 3 0 0 [.ref 64, .int x] (nx, sh, P, I) (fun r σ => ∃ I1 : Nat → Nat → Int32, r = some (.int (a_ware s x)) ∧ σ = (nx, sh, P, I1) ∧ xWN nx sh P I1 (s_ware s x) ∧ xFrm [70, 71] I I1) := by
  refine xMet.of [some (.ref 64), some (.int x), none] (by decide +kernel) (Nat.le_of_ble_eq_true rfl) rfl ?_
  obtain ⟨⟨tTape, tCoins, tWares, tBuys, tSlates, tPlans, tBooked⟩, ⟨cTape, cCoins, cWares, cBuys, cSlates, cPlans, cBooked⟩, hW7, hW9, hL⟩ := id hW
  obtain ⟨⟨n0, b0, e0⟩, ⟨n1, b1, e1⟩, ⟨n2, b2, e2⟩, ⟨n3, b3, e3⟩, ⟨n4, b4, e4⟩, ⟨n5, b5, e5⟩, ⟨n6, b6, e6⟩, ⟨n7, b7, e7⟩, ⟨n9, b9, e9⟩⟩ := hR.k
  have k7 : cN s 7 = n7 := cN_of e7 (by omega)
  rw [k7] at tTape cTape
  have k0 : cN s 0 = n0 := cN_of e0 (by omega)
  rw [k0] at tCoins cCoins
  have k1 : cN s 1 = n1 := cN_of e1 (by omega)
  rw [k1] at tWares cWares
  have k3 : cN s 3 = n3 := cN_of e3 (by omega)
  rw [k3] at tBuys cBuys
  have k4 : cN s 4 = n4 := cN_of e4 (by omega)
  rw [k4] at tSlates cSlates
  have k5 : cN s 5 = n5 := cN_of e5 (by omega)
  rw [k5] at tPlans cPlans
  have k6 : cN s 6 = n6 := cN_of e6 (by omega)
  rw [k6] at tBooked cBooked
  refine x_iload_n dX10_ware_0 rfl ?_
  refine x_iconst (v := 1) dX10_ware_1 (by decide) ?_
  refine x_bipush (v := 60) dX10_ware_2 (by decide) ?_
  refine x_callS (k2 := 0) (n2 := 0) dX10_ware_4 LS_C_71 m_C_isOutside rfl rfl (Nat.le_of_ble_eq_true rfl) (Nat.le_of_ble_eq_true rfl) (Nat.le_of_ble_eq_true rfl) (Nat.le_of_ble_eq_true rfl) ?_
  rintro _ _ ⟨rfl, rfl⟩
  refine x_if_eq (tgt := 13) dX10_ware_7 rfl (fun c7 => ?_) (fun c7 => ?_)
  · refine x_aload_n dX10_ware_13 rfl ?_
    refine y_getr dX10_ware_14 F_C_12 (fxo_64 hx) rfl (fxp_64_0 hx) ?_
    refine y_getr dX10_ware_17 F_C_56 (fxo_65 hx) rfl (fxp_65_2 hx) ?_
    refine x_callV (k2 := 0) (n2 := 0) dX10_ware_20 LV_C_75 (m_Table_isFull tWares) rfl rfl (fxo_70 hx) rfl (Nat.le_of_ble_eq_true rfl) (Nat.le_of_ble_eq_true rfl) (Nat.le_of_ble_eq_true rfl) (Nat.le_of_ble_eq_true rfl) ?_
    rintro _ _ ⟨rfl, rfl⟩
    refine x_if_eq (tgt := 29) dX10_ware_23 rfl (fun c23 => ?_) (fun c23 => ?_)
    · have hnL : n1 < 5 := Nat.lt_of_not_le (b_f c23)
      have hnm : ¬ nI n1 = 5 := fun z => by have := (nI_eqI (b := 5) (by omega) (by decide)).mp z; omega
      refine x_aload_n dX10_ware_29 rfl ?_
      refine y_getr dX10_ware_30 F_C_12 (fxo_64 hx) rfl (fxp_64_0 hx) ?_
      refine y_getr dX10_ware_33 F_C_56 (fxo_65 hx) rfl (fxp_65_2 hx) ?_
      refine x_callV (k2 := 0) (n2 := 0) dX10_ware_36 LV_C_81 (m_Table_add tWares hnL) rfl rfl (fxo_70 hx) rfl (Nat.le_of_ble_eq_true rfl) (Nat.le_of_ble_eq_true rfl) (Nat.le_of_ble_eq_true rfl) (Nat.le_of_ble_eq_true rfl) ?_
      rintro _ _ ⟨rfl, rfl⟩
      rw [apF_0 (vs := [0]) (fun q hq => by match q, hq with | 0, _ => rfl)]
      refine x_istore_n dX10_ware_39 (Nat.le_of_ble_eq_true rfl) ?_
      try simp only [xst, xst2, xclr, xset, xwide]
      refine x_aload_n dX10_ware_40 rfl ?_
      refine y_getr dX10_ware_41 F_C_12 (fxo_64 hx) rfl (fxp_64_0 hx) ?_
      refine y_getr dX10_ware_44 F_C_56 (fxo_65 hx) rfl (fxp_65_2 hx) ?_
      refine x_iload_n dX10_ware_47 rfl ?_
      refine x_iconst (v := 0) dX10_ware_48 (by decide) ?_
      refine x_iload_n dX10_ware_49 rfl ?_
      refine x_callV (k2 := 0) (n2 := 0) dX10_ware_50 LV_C_85 (m_Table_put (r := n1) (q := 0) (tWares.app hnL) (by omega) (by decide)) rfl rfl (fxo_70 hx) rfl (Nat.le_of_ble_eq_true rfl) (Nat.le_of_ble_eq_true rfl) (Nat.le_of_ble_eq_true rfl) (Nat.le_of_ble_eq_true rfl) ?_
      rintro _ _ ⟨rfl, rfl⟩
      rw [xup_row, va_up_at, apF_s (vs' := [x]) (by decide) (fun q hq => by match q, hq with | 0, _ => rfl)]
      refine x_pop dX10_ware_53 rfl ?_
      refine x_iload_n dX10_ware_54 rfl ?_
      refine x_ireturn dX10_ware_55 rfl nb_int ?_
      have hs : s_ware s x = upd (upd s (42 + n1) x) 1 (nI (n1 + 1)) := by unfold s_ware; rw [if_pos ⟨o_t c7, by rw [e1]; exact hnm⟩, k1, e1, nI_1]
      have ht : cN (s_ware s x) 1 = n1 + 1 := cN_of (by rw [hs]; exact upd_e) (by omega)
      have hA : ∀ j, j ≠ 42 + n1 → j ≠ 1 → (s_ware s x) j = s j := fun j q0 q1 => by rw [hs, upd_n q1, upd_n q0]
      obtain ⟨I1, hI1⟩ : ∃ I1, I1 = va_up (xup I 70 3 (nI (n1 + 1))) 71 (apF (I 71) n1 1 [x]) := ⟨_, rfl⟩
      have hF : xFrm [70, 71] I I1 := by rw [hI1]; exact xFrv (xFrs xFrm.rf)
      have hT : xTb sh P I1 70 71 1 5 (cN (s_ware s x) 1) := by rw [ht, hI1]; exact tWares.app hnL
      exact ⟨I1, by unfold a_ware; rw [if_pos (o_t c7), if_neg (show ¬ s 1 = _ by rw [e1]; exact hnm), e1], by rw [hI1], hW.mst hR (Or.inl ⟨hF 66 (by decide), hF 67 (by decide), (hA 7 (by omega) (by omega)), fun j _ _ => (hA j (by omega) (by omega))⟩) (Or.inl ⟨hF 68 (by decide), hF 69 (by decide), (hA 0 (by omega) (by omega)), fun j _ _ => (hA j (by omega) (by omega))⟩) (Or.inr ⟨hT, (by rw [hI1, hs]; rw [hs] at ht; exact (fun i hi => by
            rw [ht] at hi
            rw [va_up_at]
            by_cases hin2 : i = n1
            · rw [hin2, apF_n (by decide)]; rw [upd_n (by omega), upd_e]; rfl
            · rw [apF_o (by omega) (by decide), cWares i (by omega), upd_n (by omega), upd_n (by omega)]))⟩) (Or.inl ⟨hF 72 (by decide), hF 73 (by decide), (hA 3 (by omega) (by omega)), fun j _ _ => (hA j (by omega) (by omega))⟩) (Or.inl ⟨hF 74 (by decide), hF 75 (by decide), (hA 4 (by omega) (by omega)), fun j _ _ => (hA j (by omega) (by omega))⟩) (Or.inl ⟨hF 76 (by decide), hF 77 (by decide), (hA 5 (by omega) (by omega)), fun j _ _ => (hA j (by omega) (by omega))⟩) (Or.inl ⟨hF 78 (by decide), hF 79 (by decide), (hA 6 (by omega) (by omega)), fun j _ _ => (hA j (by omega) (by omega))⟩) ((congrFun (hF 65 (by decide)) 7).trans (hW7.trans (hA 2 (by omega) (by omega)).symm)) ((congrFun (hF 65 (by decide)) 9).trans (hW9.trans (hA 9 (by omega) (by omega)).symm)) ⟨fun a ha => hF a (fun z => by simp only [List.mem_cons, List.not_mem_nil, or_false] at z; omega), (hA 8 (by omega) (by omega)), fun j hj => (hA j (by omega) (by omega))⟩, hF⟩
    · have hnm : nI n1 = 5 := by have h9 := b_t c23; rw [show n1 = 5 by omega]; rfl
      refine x_bipush (v := (-4)) dX10_ware_26 (by decide) ?_
      refine x_ireturn dX10_ware_28 rfl nb_int ?_
      exact ⟨I, by unfold a_ware; rw [if_pos (o_t c7), if_pos (show s 1 = 5 by rw [e1]; exact hnm)], rfl, by unfold s_ware; rw [if_neg (fun z => z.2 (by rw [e1]; exact hnm))]; exact hW, xFrm.rf⟩
  · refine x_bipush (v := (-2)) dX10_ware_10 (by decide) ?_
    refine x_ireturn dX10_ware_12 rfl nb_int ?_
    exact ⟨I, by unfold a_ware; rw [if_neg (o_f c7)], rfl, by unfold s_ware; rw [if_neg (fun z => o_f c7 z.1)]; exact hW, xFrm.rf⟩
