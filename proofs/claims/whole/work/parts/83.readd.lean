/-! the class: a test read -/
set_option maxHeartbeats 4000000 in
set_option maxRecDepth 100000 in
theorem m_Clause_packed {g : xG} {nx : Nat} {sh : Nat → Nat × Nat} {P : Nat → Nat → Option Nat} {I : Nat → Nat → Int32} {x z v : Int32} : xMet g Y_Clause_packed 0 0 0 [.int x, .int z, .int v] (nx, sh, P, I) (fun r σ => r = some (.int (128 + (x * 3 + z) * 100 + v)) ∧ σ = (nx, sh, P, I)) := by
  refine xMet.of [some (.int x), some (.int z), some (.int v)] (by decide +kernel) (Nat.le_of_ble_eq_true rfl) rfl ?_
  refine x_sipush (v := 128) dX2_packed_0 (by decide) ?_
  refine x_iload_n dX2_packed_3 rfl ?_
  refine x_iconst (v := 3) dX2_packed_4 (by decide) ?_
  refine x_imul dX2_packed_5 ?_
  refine x_iload_n dX2_packed_6 rfl ?_
  refine x_iadd dX2_packed_7 ?_
  refine x_bipush (v := 100) dX2_packed_8 (by decide) ?_
  refine x_imul dX2_packed_10 ?_
  refine x_iadd dX2_packed_11 ?_
  refine x_iload_n dX2_packed_12 rfl ?_
  refine x_iadd dX2_packed_13 ?_
  refine x_ireturn dX2_packed_14 rfl nb_int ?_
  exact ⟨rfl, rfl⟩

set_option maxHeartbeats 4000000 in
set_option maxRecDepth 100000 in
theorem m_Reader_readTest {g : xG} {nx : Nat} {sh : Nat → Nat × Nat} {P : Nat → Nat → Option Nat} {I : Nat → Nat → Int32} (hx : xFx sh P) {T : Nat → Int32} {en sp : Nat} (hr : xRr I T en sp) {n : Nat} (hcd : I 97 5 = nI n) (hn : n < 100) (hT7 : ∀ j, j < en → 0 ≤ T j ∧ T j ≤ 127) : xMet g Y_Reader_readTest 5 0 0 [.ref 97] (nx, sh, P, I) (fun r σ => ∃ I1 : Nat → Nat → Int32, r = some (.int (bv (!tsW T en sp))) ∧ σ = (nx, sh, P, I1) ∧ xRr I1 T en (tsS T en sp) ∧ xFrm [97, 99] I I1 ∧ (∀ k, k ≠ 3 → k ≠ 5 → I1 97 k = I 97 k) ∧ (tsW T en sp = true → I1 97 5 = nI n ∧ I1 99 = I 99) ∧ (tsW T en sp = false → I1 97 5 = nI (n + 1) ∧ I1 99 = upd (I 99) n (tsT T en sp))) := by
  refine xMet.of [some (.ref 97), none, none, none] (by decide +kernel) (Nat.le_of_ble_eq_true rfl) rfl ?_
  obtain ⟨h2, h3, hen, hse, hT⟩ := id hr
  refine x_aload_n dX6_readTest_0 rfl ?_
  refine x_ldcS (a := 8 + 4) dX6_readTest_1 xl_Reader_132 ?_
  refine x_callV (k2 := 0) (n2 := 0) dX6_readTest_3 LV_Reader_134 (m_Reader_takeOneOf (i := 4) hx hr (by decide) hT7) rfl rfl (fxo_97 hx) rfl (Nat.le_of_ble_eq_true rfl) (Nat.le_of_ble_eq_true rfl) (Nat.le_of_ble_eq_true rfl) (Nat.le_of_ble_eq_true rfl) ?_
  rintro _ _ ⟨I1, rfl, rfl, hF1, hr1⟩
  change xRr I1 T en (tsA T en sp).2 at hr1
  show xX _ _ _ _ _ _ _ _ [.int (tsA T en sp).1] _
  refine x_istore_n dX6_readTest_6 (Nat.le_of_ble_eq_true rfl) ?_
  try simp only [xst, xst2, xclr, xset, xwide]
  refine x_iload_n dX6_readTest_7 rfl ?_
  refine x_iconst (v := (-1)) dX6_readTest_8 (by decide) ?_
  refine x_icmp_ne (tgt := 14) dX6_readTest_9 rfl (fun c9 => ?_) (fun c9 => ?_)
  · refine x_aload_n dX6_readTest_14 rfl ?_
    refine x_ldcS (a := 8 + 5) dX6_readTest_15 xl_Reader_138 ?_
    refine x_callV (k2 := 0) (n2 := 0) dX6_readTest_17 LV_Reader_134 (m_Reader_takeOneOf (I := I1) (i := 5) hx hr1 (by decide) hT7) rfl rfl (fxo_97 hx) rfl (Nat.le_of_ble_eq_true rfl) (Nat.le_of_ble_eq_true rfl) (Nat.le_of_ble_eq_true rfl) (Nat.le_of_ble_eq_true rfl) ?_
    rintro _ _ ⟨I2, rfl, rfl, hF2, hr2⟩
    change xRr I2 T en (tsB T en sp).2 at hr2
    show xX _ _ _ _ _ _ _ _ [.int (tsB T en sp).1] _
    have hF2 := hF1.tr hF2
    refine x_istore_n dX6_readTest_20 (Nat.le_of_ble_eq_true rfl) ?_
    try simp only [xst, xst2, xclr, xset, xwide]
    refine x_iload_n dX6_readTest_21 rfl ?_
    refine x_iconst (v := (-1)) dX6_readTest_22 (by decide) ?_
    refine x_icmp_ne (tgt := 28) dX6_readTest_23 rfl (fun c23 => ?_) (fun c23 => ?_)
    · refine x_aload_n dX6_readTest_28 rfl ?_
      refine x_callV (k2 := 0) (n2 := 0) dX6_readTest_29 LV_Reader_74 (m_Reader_readNumber (I := I2) hx hr2) rfl rfl (fxo_97 hx) rfl (Nat.le_of_ble_eq_true rfl) (Nat.le_of_ble_eq_true rfl) (Nat.le_of_ble_eq_true rfl) (Nat.le_of_ble_eq_true rfl) ?_
      rintro _ _ ⟨I3, rfl, rfl, hF3, hr3⟩
      change xRr I3 T en (tsF T en sp).2 at hr3
      have hF3 := hF2.tr hF3
      have hrr : xRr I3 T en (tsS T en sp) := by unfold tsS; rw [if_neg c9, if_neg c23]; exact hr3
      obtain ⟨v, hv, ev⟩ := fgS_bd (T := T) (en := en) (sp := (tsB T en sp).2) (wr := false)
      refine x_istore_n dX6_readTest_32 (Nat.le_of_ble_eq_true rfl) ?_
      try simp only [xst, xst2, xclr, xset, xwide]
      refine x_iload_n dX6_readTest_33 rfl ?_
      refine x_iconst (v := (-1)) dX6_readTest_34 (by decide) ?_
      refine x_icmp_ne (tgt := 40) dX6_readTest_35 rfl (fun c35 => ?_) (fun c35 => ?_)
      · have hfw : fgW T en (tsB T en sp).2 false = false := by
          cases hz : fgW T en (tsB T en sp).2 false with
          | false => rfl
          | true => exact absurd (by rw [hz]; rfl) c35
        rw [hfw, if_neg Bool.false_ne_true]
        have hw : tsW T en sp = false := by unfold tsW; rw [decide_eq_false c9, decide_eq_false c23, hfw]; rfl
        have hcd3 : I3 97 5 = nI n := (hF3.2 5 (by decide)).trans hcd
        refine x_aload_n dX6_readTest_40 rfl ?_
        refine x_iload_n dX6_readTest_41 rfl ?_
        refine x_iload_n dX6_readTest_42 rfl ?_
        refine x_iload_n dX6_readTest_43 rfl ?_
        refine x_callS (k2 := 0) (n2 := 0) dX6_readTest_44 LS_Reader_140 m_Clause_packed rfl rfl (Nat.le_of_ble_eq_true rfl) (Nat.le_of_ble_eq_true rfl) (Nat.le_of_ble_eq_true rfl) (Nat.le_of_ble_eq_true rfl) ?_
        rintro _ _ ⟨rfl, rfl⟩
        show xX _ _ _ _ _ _ _ _ [.int (tsT T en sp), .ref 97] _
        refine x_callV (k2 := 0) (n2 := 0) dX6_readTest_47 LV_Reader_125 (m_Reader_emit (I := I3) (n := n) hx hcd3 hn) rfl rfl (fxo_97 hx) rfl (Nat.le_of_ble_eq_true rfl) (Nat.le_of_ble_eq_true rfl) (Nat.le_of_ble_eq_true rfl) (Nat.le_of_ble_eq_true rfl) ?_
        rintro _ _ ⟨rfl, rfl⟩
        refine x_iconst (v := 1) dX6_readTest_50 (by decide) ?_
        refine x_ireturn dX6_readTest_51 rfl rfl ?_
        refine ⟨_, by rw [hw]; rfl, rfl, ?_, xFrs (xFrs hF3.1.mono), fun k h h5 => ?_, fun h => by rw [hw] at h; (cases h), fun _ => ⟨xs, ?_⟩⟩
        · obtain ⟨g2, g3, g4, g5, g6⟩ := hrr
          exact ⟨by rw [xf (by decide), xo (by decide)]; exact g2, by rw [xf (by decide), xo (by decide)]; exact g3, g4, g5, fun j hj => by rw [xo (by decide), xo (by decide)]; exact g6 j hj⟩
        · rw [xf h5, xo (by decide)]; exact hF3.2 k h
        · rw [xup_n (by decide), xup_s, hF3.1 99 (by decide)]
      · have hfw : fgW T en (tsB T en sp).2 false = true := by
          cases hz : fgW T en (tsB T en sp).2 false with
          | true => rfl
          | false => rw [hz, if_neg Bool.false_ne_true, ev] at c35; exact absurd c35 (nI_m1 (by omega))
        refine x_iconst (v := 0) dX6_readTest_38 (by decide) ?_
        refine x_ireturn dX6_readTest_39 rfl rfl ?_
        have hw : tsW T en sp = true := by unfold tsW; rw [hfw]; cases decide ((tsA T en sp).1 = -1) <;> cases decide ((tsB T en sp).1 = -1) <;> rfl
        exact ⟨I3, by rw [hw]; rfl, rfl, hrr, (hF3).1.mono, fun k h _ => (hF3).2 k h, fun _ => ⟨((hF3).2 5 (by decide)).trans hcd, (hF3).1 99 (by decide)⟩, fun h => by rw [hw] at h; cases h⟩
    · refine x_iconst (v := 0) dX6_readTest_26 (by decide) ?_
      refine x_ireturn dX6_readTest_27 rfl rfl ?_
      have hrr : xRr I2 T en (tsS T en sp) := by unfold tsS; rw [if_neg c9, if_pos c23]; exact hr2
      have hw : tsW T en sp = true := by unfold tsW; rw [decide_eq_true c23]; cases decide ((tsA T en sp).1 = -1) <;> rfl
      exact ⟨I2, by rw [hw]; rfl, rfl, hrr, (hF2).1.mono, fun k h _ => (hF2).2 k h, fun _ => ⟨((hF2).2 5 (by decide)).trans hcd, (hF2).1 99 (by decide)⟩, fun h => by rw [hw] at h; cases h⟩
  · refine x_iconst (v := 0) dX6_readTest_12 (by decide) ?_
    refine x_ireturn dX6_readTest_13 rfl rfl ?_
    have hrr : xRr I1 T en (tsS T en sp) := by unfold tsS; rw [if_pos c9]; exact hr1
    have hw : tsW T en sp = true := by unfold tsW; rw [decide_eq_true c9]; rfl
    exact ⟨I1, by rw [hw]; rfl, rfl, hrr, (hF1).1.mono, fun k h _ => (hF1).2 k h, fun _ => ⟨((hF1).2 5 (by decide)).trans hcd, (hF1).1 99 (by decide)⟩, fun h => by rw [hw] at h; cases h⟩
