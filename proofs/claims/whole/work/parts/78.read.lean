/-! the class: the reader, sign by sign -/
/-- the reader at spot sp of a text of en signs -/
def xRr (I : Nat → Nat → Int32) (T : Nat → Int32) (en sp : Nat) : Prop := I 97 2 = nI en ∧ I 97 3 = nI sp ∧ en ≤ 100 ∧ sp ≤ en ∧ ∀ j, j < en → I 98 j = T j
/-- only the spot has changed -/
def xR3 (I I1 : Nat → Nat → Int32) : Prop := xFrm [97] I I1 ∧ ∀ k, k ≠ 3 → I1 97 k = I 97 k
theorem xR3.rf {I : Nat → Nat → Int32} : xR3 I I := ⟨xFrm.rf, fun _ _ => rfl⟩
theorem xR3.tr {I I1 I2 : Nat → Nat → Int32} (h1 : xR3 I I1) (h2 : xR3 I1 I2) : xR3 I I2 := ⟨h1.1.tr h2.1, fun k hk => (h2.2 k hk).trans (h1.2 k hk)⟩
theorem xRr.up {I : Nat → Nat → Int32} {T : Nat → Int32} {en sp sp1 : Nat} (h : xRr I T en sp) (hs : sp1 ≤ en) : xRr (xup I 97 3 (nI sp1)) T en sp1 ∧ xR3 I (xup I 97 3 (nI sp1)) := by
  obtain ⟨h2, h3, h4, h5, h6⟩ := h
  exact ⟨⟨by rw [xf (by decide)]; exact h2, xs, h4, hs, fun j hj => by rw [xo (by decide)]; exact h6 j hj⟩, xFrs xFrm.rf, fun k hk => xf hk⟩
set_option maxHeartbeats 4000000 in
set_option maxRecDepth 100000 in
theorem m_Reader_next {g : xG} {nx : Nat} {sh : Nat → Nat × Nat} {P : Nat → Nat → Option Nat} {I : Nat → Nat → Int32} (hx : xFx sh P) {T : Nat → Int32} {en sp : Nat} (hr : xRr I T en sp) : xMet g Y_Reader_next 0 0 0 [.ref 97] (nx, sh, P, I) (fun r σ => r = some (.int (hrT T en sp)) ∧ σ = (nx, sh, P, I)) := by
  refine xMet.of [some (.ref 97)] (by decide +kernel) (Nat.le_of_ble_eq_true rfl) rfl ?_
  obtain ⟨h2, h3, hen, hse, hT⟩ := id hr
  refine x_aload_n dX6_next_0 rfl ?_
  refine y_geti dX6_next_1 F_Reader_19 (fxo_97 hx) rfl h3 ?_
  refine x_if_lt (tgt := 42) dX6_next_4 rfl (fun c4 => ?_) (fun c4 => ?_)
  · exact absurd c4 (nI_pos (by omega))
  · refine x_aload_n dX6_next_7 rfl ?_
    refine y_geti dX6_next_8 F_Reader_19 (fxo_97 hx) rfl h3 ?_
    refine x_aload_n dX6_next_11 rfl ?_
    refine y_geti dX6_next_12 F_Reader_15 (fxo_97 hx) rfl h2 ?_
    refine x_icmp_ge (tgt := 42) dX6_next_15 rfl (fun c15 => ?_) (fun c15 => ?_)
    · have hge : en ≤ sp := (nI_leI (by omega) (by omega)).mp c15
      have hh : hrT T en sp = -1 := if_neg (by omega)
      refine x_iconst (v := (-1)) dX6_next_42 (by decide) ?_
      refine x_ireturn dX6_next_43 rfl nb_int ?_
      exact ⟨by rw [hh], rfl⟩
    · have hlt : sp < en := Nat.not_le.mp (fun y => c15 (nI_le y (by omega)))
      have hh : hrT T en sp = T sp := if_pos hlt
      refine x_aload_n dX6_next_18 rfl ?_
      refine y_geti dX6_next_19 F_Reader_19 (fxo_97 hx) rfl h3 ?_
      refine x_aload_n dX6_next_22 rfl ?_
      refine y_getr dX6_next_23 F_Reader_9 (fxo_97 hx) rfl (fxp_97_1 hx) ?_
      refine y_alen dX6_next_26 (fxk_98 hx) (by decide) ?_
      refine x_icmp_ge (tgt := 42) dX6_next_27 rfl (fun c27 => ?_) (fun c27 => ?_)
      · exact absurd ((nI_leI (b := sp) (a := 100) (by decide) (by omega)).mp c27) (by omega)
      · refine x_aload_n dX6_next_30 rfl ?_
        refine y_getr dX6_next_31 F_Reader_9 (fxo_97 hx) rfl (fxp_97_1 hx) ?_
        refine x_aload_n dX6_next_34 rfl ?_
        refine y_geti dX6_next_35 F_Reader_19 (fxo_97 hx) rfl h3 ?_
        refine y_iaload dX6_next_38 (fxk_98 hx) (vi rfl (show sp < 100 by omega) (by decide)) (rI (j := sp) (ci rfl (by omega)) (hT sp hlt)) ?_
        refine x_goto (tgt := 43) dX6_next_39 rfl ?_
        refine x_ireturn dX6_next_43 rfl nb_int ?_
        exact ⟨by rw [hh], rfl⟩

set_option maxHeartbeats 4000000 in
set_option maxRecDepth 100000 in
theorem m_Reader_take {g : xG} {nx : Nat} {sh : Nat → Nat × Nat} {P : Nat → Nat → Option Nat} {I : Nat → Nat → Int32} (hx : xFx sh P) {T : Nat → Int32} {en sp : Nat} (hr : xRr I T en sp) {c : Int32} (hc0 : 0 ≤ c) : xMet g Y_Reader_take 1 0 0 [.ref 97, .int c] (nx, sh, P, I) (fun r σ => ∃ I1 : Nat → Nat → Int32, r = some (.int (bv (!muW T en sp false c))) ∧ σ = (nx, sh, P, I1) ∧ xR3 I I1 ∧ xRr I1 T en (muS T en sp false c)) := by
  refine xMet.of [some (.ref 97), some (.int c)] (by decide +kernel) (Nat.le_of_ble_eq_true rfl) rfl ?_
  obtain ⟨h2, h3, hen, hse, hT⟩ := id hr
  refine x_aload_n dX6_take_0 rfl ?_
  refine x_callV (k2 := 0) (n2 := 0) dX6_take_1 LV_Reader_95 (m_Reader_next hx hr) rfl rfl (fxo_97 hx) rfl (Nat.le_of_ble_eq_true rfl) (Nat.le_of_ble_eq_true rfl) (Nat.le_of_ble_eq_true rfl) (Nat.le_of_ble_eq_true rfl) ?_
  rintro _ _ ⟨rfl, rfl⟩
  refine x_iload_n dX6_take_4 rfl ?_
  refine x_icmp_eq (tgt := 10) dX6_take_5 rfl (fun c5 => ?_) (fun c5 => ?_)
  · refine x_aload_n dX6_take_10 rfl ?_
    refine x_dup dX6_take_11 rfl ?_
    refine y_geti dX6_take_12 F_Reader_19 (fxo_97 hx) rfl h3 ?_
    refine x_iconst (v := 1) dX6_take_15 (by decide) ?_
    refine x_iadd dX6_take_16 ?_
    rw [nI_1]
    refine x_puti dX6_take_17 F_Reader_19 T_6_3 (fxo_97 hx) rfl rfl rfl ?_
    refine x_iconst (v := 1) dX6_take_20 (by decide) ?_
    refine x_ireturn dX6_take_21 rfl rfl ?_
    have hm : muW T en sp false c = false := by unfold muW; rw [decide_eq_true c5]; rfl
    have hlt : sp < en := Nat.not_le.mp (fun y => by have h9 : hrT T en sp = -1 := if_neg (by omega); rw [h9] at c5; exact absurd (c5 ▸ hc0) (by decide))
    exact ⟨_, by rw [hm]; rfl, rfl, (hr.up (sp1 := sp + 1) (by omega)).2, by unfold muS; rw [if_neg (by rw [hm]; decide)]; exact (hr.up (by omega)).1⟩
  · refine x_iconst (v := 0) dX6_take_8 (by decide) ?_
    refine x_ireturn dX6_take_9 rfl rfl ?_
    have hm : muW T en sp false c = true := by unfold muW; rw [decide_eq_false c5]; rfl
    exact ⟨I, by rw [hm]; rfl, rfl, xR3.rf, by unfold muS; rw [if_pos hm]; exact hr⟩

theorem fg_n {T : Nat → Int32} {en sp : Nat} (h : isF (hrT T en sp) = false) : fgW T en sp false = true ∧ fgS T en sp false = (0, sp) := by
  have e : fgW T en sp false = true := by unfold fgW; rw [h]; rfl
  refine ⟨e, ?_⟩
  unfold fgS
  rw [e]
  rfl
theorem fg_y {T : Nat → Int32} {en sp : Nat} (h : isF (hrT T en sp) = true) : fgW T en sp false = false ∧ fgS T en sp false = if isF (hrT T en (sp + 1)) = true ∧ 0 < hrT T en sp - 48 then (10 * (hrT T en sp - 48) + hrT T en (sp + 1) - 48, sp + 2) else (hrT T en sp - 48, sp + 1) := by
  have e : fgW T en sp false = false := by unfold fgW; rw [h]; rfl
  refine ⟨e, ?_⟩
  unfold fgS
  rw [e]
  show (if false = false ∧ isF (hrT T en sp) = true ∧ (0 = 0 ∨ (0 : Int32) < 0) then (if false = false ∧ isF (hrT T en (sp + 1)) = true ∧ (0 + 1 = 0 ∨ 0 < 10 * 0 + hrT T en sp - 48) then (10 * (10 * 0 + hrT T en sp - 48) + hrT T en (sp + 1) - 48, sp + 1 + 1) else (10 * 0 + hrT T en sp - 48, sp + 1)) else ((0 : Int32), sp)) = _
  rw [if_pos ⟨rfl, h, Or.inl rfl⟩, Int32.mul_zero, Int32.zero_add]
  by_cases h2 : isF (hrT T en (sp + 1)) = true ∧ 0 < hrT T en sp - 48
  · rw [if_pos h2, if_pos ⟨rfl, h2.1, Or.inr h2.2⟩]
  · rw [if_neg h2, if_neg (fun y => h2 ⟨y.2.1, y.2.2.resolve_left (by decide)⟩)]
set_option maxHeartbeats 4000000 in
set_option maxRecDepth 100000 in
theorem m_Reader_takeDigit {g : xG} {nx : Nat} {sh : Nat → Nat × Nat} {P : Nat → Nat → Option Nat} {I : Nat → Nat → Int32} (hx : xFx sh P) {T : Nat → Int32} {en sp : Nat} (hr : xRr I T en sp) : xMet g Y_Reader_takeDigit 0 0 0 [.ref 97] (nx, sh, P, I) (fun r σ => ∃ I1 : Nat → Nat → Int32, r = some (.int (if isF (hrT T en sp) = true then hrT T en sp - 48 else -1)) ∧ σ = (nx, sh, P, I1) ∧ xR3 I I1 ∧ xRr I1 T en (if isF (hrT T en sp) = true then sp + 1 else sp)) := by
  refine xMet.of [some (.ref 97), none] (by decide +kernel) (Nat.le_of_ble_eq_true rfl) rfl ?_
  obtain ⟨h2, h3, hen, hse, hT⟩ := id hr
  refine x_aload_n dX6_takeDigit_0 rfl ?_
  refine y_geti dX6_takeDigit_1 F_Reader_19 (fxo_97 hx) rfl h3 ?_
  refine x_if_lt (tgt := 42) dX6_takeDigit_4 rfl (fun c4 => ?_) (fun c4 => ?_)
  · exact absurd c4 (nI_pos (by omega))
  · have J43 : ∀ (v : Int32) (hv : v = hrT T en sp), xX g Y_Reader_takeDigit 0 0 0 (fun r σ => ∃ I1 : Nat → Nat → Int32, r = some (.int (if isF (hrT T en sp) = true then hrT T en sp - 48 else -1)) ∧ σ = (nx, sh, P, I1) ∧ xR3 I I1 ∧ xRr I1 T en (if isF (hrT T en sp) = true then sp + 1 else sp)) 43 [some (.ref 97), none] [.int v] (nx, sh, P, I) := by
      intro v hv
      subst hv
      refine x_istore_n dX6_takeDigit_43 (Nat.le_of_ble_eq_true rfl) ?_
      try simp only [xst, xst2, xclr, xset, xwide]
      refine x_iload_n dX6_takeDigit_44 rfl ?_
      refine x_bipush (v := 48) dX6_takeDigit_45 (by decide) ?_
      refine x_icmp_lt (tgt := 56) dX6_takeDigit_47 rfl (fun c47 => ?_) (fun c47 => ?_)
      · have hf : isF (hrT T en sp) = false := decide_eq_false (fun y => Int32.not_le.mpr c47 y.1)
        refine x_iconst (v := (-1)) dX6_takeDigit_56 (by decide) ?_
        refine x_ireturn dX6_takeDigit_57 rfl nb_int ?_
        exact ⟨I, by rw [hf]; rfl, rfl, xR3.rf, by rw [hf]; exact hr⟩
      · have hlo : 48 ≤ hrT T en sp := Int32.not_lt.mp c47
        refine x_iload_n dX6_takeDigit_50 rfl ?_
        refine x_bipush (v := 57) dX6_takeDigit_51 (by decide) ?_
        refine x_icmp_le (tgt := 58) dX6_takeDigit_53 rfl (fun c53 => ?_) (fun c53 => ?_)
        · have hf : isF (hrT T en sp) = true := decide_eq_true ⟨hlo, c53⟩
          have hlt : sp < en := Nat.not_le.mp (fun y => by have h9 : hrT T en sp = -1 := if_neg (by omega); rw [h9] at hlo; exact absurd hlo (by decide))
          refine x_aload_n dX6_takeDigit_58 rfl ?_
          refine x_dup dX6_takeDigit_59 rfl ?_
          refine y_geti dX6_takeDigit_60 F_Reader_19 (fxo_97 hx) rfl h3 ?_
          refine x_iconst (v := 1) dX6_takeDigit_63 (by decide) ?_
          refine x_iadd dX6_takeDigit_64 ?_
          rw [nI_1]
          refine x_puti dX6_takeDigit_65 F_Reader_19 T_6_3 (fxo_97 hx) rfl rfl rfl ?_
          refine x_iload_n dX6_takeDigit_68 rfl ?_
          refine x_bipush (v := 48) dX6_takeDigit_69 (by decide) ?_
          refine x_isub dX6_takeDigit_71 ?_
          refine x_ireturn dX6_takeDigit_72 rfl nb_int ?_
          exact ⟨_, by rw [hf]; rfl, rfl, (hr.up (sp1 := sp + 1) (by omega)).2, by rw [hf]; exact (hr.up (by omega)).1⟩
        · have hf : isF (hrT T en sp) = false := decide_eq_false (fun y => c53 y.2)
          refine x_iconst (v := (-1)) dX6_takeDigit_56 (by decide) ?_
          refine x_ireturn dX6_takeDigit_57 rfl nb_int ?_
          exact ⟨I, by rw [hf]; rfl, rfl, xR3.rf, by rw [hf]; exact hr⟩
    refine x_aload_n dX6_takeDigit_7 rfl ?_
    refine y_geti dX6_takeDigit_8 F_Reader_19 (fxo_97 hx) rfl h3 ?_
    refine x_aload_n dX6_takeDigit_11 rfl ?_
    refine y_geti dX6_takeDigit_12 F_Reader_15 (fxo_97 hx) rfl h2 ?_
    refine x_icmp_ge (tgt := 42) dX6_takeDigit_15 rfl (fun c15 => ?_) (fun c15 => ?_)
    · have hge : en ≤ sp := (nI_leI (by omega) (by omega)).mp c15
      have hh : hrT T en sp = -1 := if_neg (by omega)
      refine x_iconst (v := (-1)) dX6_takeDigit_42 (by decide) ?_
      exact J43 _ hh.symm
    · have hlt : sp < en := Nat.not_le.mp (fun y => c15 (nI_le y (by omega)))
      have hh : hrT T en sp = T sp := if_pos hlt
      refine x_aload_n dX6_takeDigit_18 rfl ?_
      refine y_geti dX6_takeDigit_19 F_Reader_19 (fxo_97 hx) rfl h3 ?_
      refine x_aload_n dX6_takeDigit_22 rfl ?_
      refine y_getr dX6_takeDigit_23 F_Reader_9 (fxo_97 hx) rfl (fxp_97_1 hx) ?_
      refine y_alen dX6_takeDigit_26 (fxk_98 hx) (by decide) ?_
      refine x_icmp_ge (tgt := 42) dX6_takeDigit_27 rfl (fun c27 => ?_) (fun c27 => ?_)
      · exact absurd ((nI_leI (b := sp) (a := 100) (by decide) (by omega)).mp c27) (by omega)
      · refine x_aload_n dX6_takeDigit_30 rfl ?_
        refine y_getr dX6_takeDigit_31 F_Reader_9 (fxo_97 hx) rfl (fxp_97_1 hx) ?_
        refine x_aload_n dX6_takeDigit_34 rfl ?_
        refine y_geti dX6_takeDigit_35 F_Reader_19 (fxo_97 hx) rfl h3 ?_
        refine y_iaload dX6_takeDigit_38 (fxk_98 hx) (vi rfl (show sp < 100 by omega) (by decide)) (rI (j := sp) (ci rfl (by omega)) (hT sp hlt)) ?_
        refine x_goto (tgt := 43) dX6_takeDigit_39 rfl ?_
        exact J43 _ hh.symm

set_option maxHeartbeats 4000000 in
set_option maxRecDepth 100000 in
theorem m_Reader_readNumber {g : xG} {nx : Nat} {sh : Nat → Nat × Nat} {P : Nat → Nat → Option Nat} {I : Nat → Nat → Int32} (hx : xFx sh P) {T : Nat → Int32} {en sp : Nat} (hr : xRr I T en sp) : xMet g Y_Reader_readNumber 1 0 0 [.ref 97] (nx, sh, P, I) (fun r σ => ∃ I1 : Nat → Nat → Int32, r = some (.int (if fgW T en sp false = true then -1 else (fgS T en sp false).1)) ∧ σ = (nx, sh, P, I1) ∧ xR3 I I1 ∧ xRr I1 T en ((fgS T en sp false).2)) := by
  refine xMet.of [some (.ref 97), none, none] (by decide +kernel) (Nat.le_of_ble_eq_true rfl) rfl ?_
  obtain ⟨h2, h3, hen, hse, hT⟩ := id hr
  refine x_aload_n dX6_readNumber_0 rfl ?_
  refine x_callV (k2 := 0) (n2 := 0) dX6_readNumber_1 LV_Reader_110 (m_Reader_takeDigit hx hr) rfl rfl (fxo_97 hx) rfl (Nat.le_of_ble_eq_true rfl) (Nat.le_of_ble_eq_true rfl) (Nat.le_of_ble_eq_true rfl) (Nat.le_of_ble_eq_true rfl) ?_
  rintro _ _ ⟨I1, rfl, rfl, hF1, hr1⟩
  refine x_istore_n dX6_readNumber_4 (Nat.le_of_ble_eq_true rfl) ?_
  try simp only [xst, xst2, xclr, xset, xwide]
  refine x_iload_n dX6_readNumber_5 rfl ?_
  refine x_if_gt (tgt := 11) dX6_readNumber_6 rfl (fun c6 => ?_) (fun c6 => ?_)
  · have hf : isF (hrT T en sp) = true := by
      cases hz : isF (hrT T en sp) with
      | true => rfl
      | false => rw [hz, if_neg Bool.false_ne_true] at c6; exact absurd c6 (by decide)
    obtain ⟨g1, g2⟩ := fg_y hf
    rw [if_pos hf] at hr1 c6
    rw [if_pos hf]
    refine x_aload_n dX6_readNumber_11 rfl ?_
    refine x_callV (k2 := 0) (n2 := 0) dX6_readNumber_12 LV_Reader_110 (m_Reader_takeDigit (I := I1) hx hr1) rfl rfl (fxo_97 hx) rfl (Nat.le_of_ble_eq_true rfl) (Nat.le_of_ble_eq_true rfl) (Nat.le_of_ble_eq_true rfl) (Nat.le_of_ble_eq_true rfl) ?_
    rintro _ _ ⟨I2, rfl, rfl, hF2, hr2⟩
    refine x_istore_n dX6_readNumber_15 (Nat.le_of_ble_eq_true rfl) ?_
    try simp only [xst, xst2, xclr, xset, xwide]
    refine x_iload_n dX6_readNumber_16 rfl ?_
    refine x_iconst (v := (-1)) dX6_readNumber_17 (by decide) ?_
    refine x_icmp_ne (tgt := 25) dX6_readNumber_18 rfl (fun c18 => ?_) (fun c18 => ?_)
    · skip
      refine x_iload_n dX6_readNumber_25 rfl ?_
      refine x_bipush (v := 10) dX6_readNumber_26 (by decide) ?_
      refine x_imul dX6_readNumber_28 ?_
      refine x_iload_n dX6_readNumber_29 rfl ?_
      refine x_iadd dX6_readNumber_30 ?_
      refine x_ireturn dX6_readNumber_31 rfl nb_int ?_
      have hf2 : isF (hrT T en (sp + 1)) = true := by
        by_cases y : isF (hrT T en (sp + 1)) = true
        · exact y
        · rw [if_neg y] at c18; exact absurd rfl c18
      rw [if_pos hf2] at hr2
      refine ⟨I2, ?_, rfl, hF1.tr hF2, by rw [g2, if_pos ⟨hf2, c6⟩]; exact hr2⟩
      have h22 : isF (hrT T en (sp + 1)) = true ∧ 0 < hrT T en sp - 48 := ⟨hf2, c6⟩
      rw [g1, g2, if_neg Bool.false_ne_true, if_pos hf2, if_pos h22]
      show some (Value.int ((hrT T en sp - 48) * 10 + (hrT T en (sp + 1) - 48))) = some (Value.int (10 * (hrT T en sp - 48) + hrT T en (sp + 1) - 48))
      rw [Int32.mul_comm, Int32.sub_eq_add_neg (hrT T en (sp + 1)), ← Int32.add_assoc, ← Int32.sub_eq_add_neg]
    · skip
      refine x_iload_n dX6_readNumber_21 rfl ?_
      refine x_goto (tgt := 31) dX6_readNumber_22 rfl ?_
      refine x_ireturn dX6_readNumber_31 rfl nb_int ?_
      have hf2 : ¬ isF (hrT T en (sp + 1)) = true := fun y => by
        rw [if_pos y] at c18
        have h48 := (of_decide_eq_true y).1
        have : hrT T en (sp + 1) = 47 := by rw [← Int32.sub_add_cancel (hrT T en (sp + 1)) 48, c18]; rfl
        rw [this] at h48
        exact absurd h48 (by decide)
      rw [if_neg hf2] at hr2
      refine ⟨I2, by rw [g1, g2, if_neg Bool.false_ne_true, if_neg (fun y => hf2 y.1)], rfl, hF1.tr hF2, by rw [g2, if_neg (fun y => hf2 y.1)]; exact hr2⟩
  · skip
    refine x_iload_n dX6_readNumber_9 rfl ?_
    refine x_ireturn dX6_readNumber_10 rfl nb_int ?_
    by_cases hf : isF (hrT T en sp) = true
    · obtain ⟨g1, g2⟩ := fg_y hf
      rw [if_pos hf] at hr1 c6 ⊢
      rw [g1, g2, if_neg Bool.false_ne_true, if_neg (fun y => c6 y.2)]
      exact ⟨I1, rfl, rfl, hF1, hr1⟩
    · have hf2 : isF (hrT T en sp) = false := Bool.eq_false_iff.mpr hf
      obtain ⟨g1, g2⟩ := fg_n hf2
      rw [if_neg hf] at hr1 c6 ⊢
      rw [g1, g2, if_pos rfl]
      exact ⟨I1, rfl, rfl, hF1, hr1⟩
