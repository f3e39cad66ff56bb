/-! the reference: reading words -/
/-- SPELLS: spot and wrong behind the first k signs of literal i -/
def spL (T : Nat → Int32) (en i sp : Nat) (wr : Bool) : Nat → Nat × Bool
  | 0 => (sp, wr)
  | k + 1 => (muS T en (spL T en i sp wr k).1 (spL T en i sp wr k).2 (sg i k), muW T en (spL T en i sp wr k).1 (spL T en i sp wr k).2 (sg i k))
theorem muS_le {T : Nat → Int32} {en sp : Nat} {wr : Bool} {c : Int32} : muS T en sp wr c ≤ sp + 1 := by unfold muS; split <;> omega
theorem spL_le {T : Nat → Int32} {en i sp : Nat} {wr : Bool} : ∀ k, (spL T en i sp wr k).1 ≤ sp + k
  | 0 => Nat.le_refl _
  | k + 1 => by
    have h1 := spL_le (T := T) (en := en) (i := i) (sp := sp) (wr := wr) k
    have h2 := muS_le (T := T) (en := en) (sp := (spL T en i sp wr k).1) (wr := (spL T en i sp wr k).2) (c := sg i k)
    show muS _ _ _ _ _ ≤ sp + (k + 1)
    omega

set_option maxHeartbeats 4000000 in
set_option maxRecDepth 100000 in
theorem r_spells {g : xG} {nx : Nat} {sh : Nat → Nat × Nat} {P : Nat → Nat → Option Nat} {I : Nat → Nat → Int32} (hx : xFx sh P) {i sp en : Nat} {wr : Bool} (hi : i < 10) (hq : xRd I sp en wr) (hs2 : sp < 190) : xMet g Y_M_spells 4 0 0 [.ref 127, .ref (8 + i)] (nx, sh, P, I) (fun r σ => ∃ I1 : Nat → Nat → Int32, r = none ∧ σ = (nx, sh, P, I1) ∧ xFrm [127] I I1 ∧ xFd [5, 7] I I1 ∧ xRd I1 (spL (txt (I 128)) en i sp wr (xTl.getD i 0)).1 en (spL (txt (I 128)) en i sp wr (xTl.getD i 0)).2) := by
  refine xMet.of [some (.ref 127), some (.ref (8 + i)), none] (by decide +kernel) (Nat.le_of_ble_eq_true rfl) rfl ?_
  have hl6 : xTl.getD i 0 ≤ 6 := sl_le ⟨i, hi⟩
  refine x_iconst (v := 0) dX11_spells_0 (by decide) ?_
  refine x_istore_n dX11_spells_1 (Nat.le_of_ble_eq_true rfl) ?_
  try simp only [xst, xst2, xclr, xset, xwide]
  have K2 : ∀ (fuel : Nat) (k : Nat) (I2 : Nat → Nat → Int32) (hk : k ≤ xTl.getD i 0) (hF : xFrm [127] I I2) (hD : xFd [5, 7] I I2) (hq2 : xRd I2 (spL (txt (I 128)) en i sp wr k).1 en (spL (txt (I 128)) en i sp wr k).2), xTl.getD i 0 - k < fuel → xX g Y_M_spells 4 0 0 (fun r σ => ∃ I1 : Nat → Nat → Int32, r = none ∧ σ = (nx, sh, P, I1) ∧ xFrm [127] I I1 ∧ xFd [5, 7] I I1 ∧ xRd I1 (spL (txt (I 128)) en i sp wr (xTl.getD i 0)).1 en (spL (txt (I 128)) en i sp wr (xTl.getD i 0)).2) 2 [some (.ref 127), some (.ref (8 + i)), some (.int (nI k))] [] (nx, sh, P, I2) := by
    intro fuel
    induction fuel with
    | zero => intro k I2 hk hF hD hq2 hm; exact absurd hm (Nat.not_lt_zero _)
    | succ fuel ih2 =>
      intro k I2 hk hF hD hq2 hm
      refine x_iload_n dX11_spells_2 rfl ?_
      refine x_aload_n dX11_spells_3 rfl ?_
      refine x_callVs (k2 := 0) (n2 := 0) dX11_spells_4 LV_M_83 (j_length hi) rfl rfl (xOs_o hi) rfl (Nat.le_of_ble_eq_true rfl) (Nat.le_of_ble_eq_true rfl) (Nat.le_of_ble_eq_true rfl) (Nat.le_of_ble_eq_true rfl) ?_
      rintro _ _ ⟨rfl, rfl⟩
      refine x_icmp_ge (tgt := 25) dX11_spells_7 rfl (fun c7 => ?_) (fun c7 => ?_)
      · have hie : k = xTl.getD i 0 := cge_t (by omega) hk c7
        refine x_return dX11_spells_25 rfl ?_
        exact ⟨I2, rfl, rfl, hF, hD, by rw [← hie]; exact hq2⟩
      · have him : k < xTl.getD i 0 := cge_f (by omega) hk c7
        have hle := spL_le (T := txt (I 128)) (en := en) (i := i) (sp := sp) (wr := wr) k
        refine x_aload_n dX11_spells_10 rfl ?_
        refine x_aload_n dX11_spells_11 rfl ?_
        refine x_iload_n dX11_spells_12 rfl ?_
        refine x_callVs (k2 := 0) (n2 := 0) dX11_spells_13 LV_M_88 (j_char hi him) rfl rfl (xOs_o hi) rfl (Nat.le_of_ble_eq_true rfl) (Nat.le_of_ble_eq_true rfl) (Nat.le_of_ble_eq_true rfl) (Nat.le_of_ble_eq_true rfl) ?_
        rintro _ _ ⟨rfl, rfl⟩
        refine x_callV (k2 := 0) (n2 := 0) dX11_spells_16 LV_M_92 (r_must (I := I2) (c := sg i k) hx hq2 (by omega)) rfl rfl (fxo_127 hx) rfl (Nat.le_of_ble_eq_true rfl) (Nat.le_of_ble_eq_true rfl) (Nat.le_of_ble_eq_true rfl) (Nat.le_of_ble_eq_true rfl) ?_
        rintro _ _ ⟨I3, rfl, rfl, hF3, hD3, hq3⟩
        rw [show I2 128 = I 128 from hF 128 (by decide)] at hq3
        refine x_iinc (v := (nI (k + 1))) dX11_spells_19 rfl (nI_1 _) (Nat.le_of_ble_eq_true rfl) ?_
        try simp only [xst, xst2, xclr, xset, xwide]
        refine x_goto (tgt := 2) dX11_spells_22 rfl ?_
        exact ih2 (k + 1) _ (by omega) (hF.tr (l1 := [127]) hF3) (xFd.tr (l := [5, 7]) (l1 := [5, 7]) hD hD3) hq3 (by omega)
  exact K2 _ 0 I (Nat.zero_le _) xFrm.rf xFd.rf hq (Nat.lt_succ_self _)

/-- AMONG: which sign of literal i, and the spot behind -/
def amS (T : Nat → Int32) (en i sp : Nat) : Nat → Nat → Int32 × Nat
  | 0, _ => (-1, sp)
  | m + 1, k => if hrT T en sp = sg i k then (nI k, sp + 1) else amS T en i sp m (k + 1)

set_option maxHeartbeats 4000000 in
set_option maxRecDepth 100000 in
theorem r_among {g : xG} {nx : Nat} {sh : Nat → Nat × Nat} {P : Nat → Nat → Option Nat} {I : Nat → Nat → Int32} (hx : xFx sh P) {i sp en : Nat} {wr : Bool} (hi : i < 10) (hq : xRd I sp en wr) (hs2 : sp < 190) : xMet g Y_M_among 4 0 0 [.ref 127, .ref (8 + i)] (nx, sh, P, I) (fun r σ => ∃ I1 : Nat → Nat → Int32, r = some (.int (amS (txt (I 128)) en i sp (xTl.getD i 0) 0).1) ∧ σ = (nx, sh, P, I1) ∧ xFrm [127] I I1 ∧ xFd [5] I I1 ∧ xRd I1 (amS (txt (I 128)) en i sp (xTl.getD i 0) 0).2 en wr) := by
  refine xMet.of [some (.ref 127), some (.ref (8 + i)), none] (by decide +kernel) (Nat.le_of_ble_eq_true rfl) rfl ?_
  have hl6 : xTl.getD i 0 ≤ 6 := sl_le ⟨i, hi⟩
  refine x_iconst (v := 0) dX11_among_0 (by decide) ?_
  refine x_istore_n dX11_among_1 (Nat.le_of_ble_eq_true rfl) ?_
  try simp only [xst, xst2, xclr, xset, xwide]
  have K2 : ∀ (fuel : Nat) (k : Nat) (hk : k ≤ xTl.getD i 0) (ha : amS (txt (I 128)) en i sp (xTl.getD i 0 - k) k = (amS (txt (I 128)) en i sp (xTl.getD i 0) 0)), xTl.getD i 0 - k < fuel → xX g Y_M_among 4 0 0 (fun r σ => ∃ I1 : Nat → Nat → Int32, r = some (.int (amS (txt (I 128)) en i sp (xTl.getD i 0) 0).1) ∧ σ = (nx, sh, P, I1) ∧ xFrm [127] I I1 ∧ xFd [5] I I1 ∧ xRd I1 (amS (txt (I 128)) en i sp (xTl.getD i 0) 0).2 en wr) 2 [some (.ref 127), some (.ref (8 + i)), some (.int (nI k))] [] (nx, sh, P, I) := by
    intro fuel
    induction fuel with
    | zero => intro k hk ha hm; exact absurd hm (Nat.not_lt_zero _)
    | succ fuel ih2 =>
      intro k hk ha hm
      refine x_iload_n dX11_among_2 rfl ?_
      refine x_aload_n dX11_among_3 rfl ?_
      refine x_callVs (k2 := 0) (n2 := 0) dX11_among_4 LV_M_83 (j_length hi) rfl rfl (xOs_o hi) rfl (Nat.le_of_ble_eq_true rfl) (Nat.le_of_ble_eq_true rfl) (Nat.le_of_ble_eq_true rfl) (Nat.le_of_ble_eq_true rfl) ?_
      rintro _ _ ⟨rfl, rfl⟩
      refine x_icmp_ge (tgt := 40) dX11_among_7 rfl (fun c7 => ?_) (fun c7 => ?_)
      · have hie : xTl.getD i 0 - k = 0 := by have := cge_t (by omega) hk c7; omega
        refine x_iconst (v := (-1)) dX11_among_40 (by decide) ?_
        refine x_ireturn dX11_among_41 rfl nb_int ?_
        rw [hie] at ha
        exact ⟨I, by rw [← ha]; rfl, rfl, xFrm.rf, xFd.rf, by rw [← ha]; exact hq⟩
      · have him : k < xTl.getD i 0 := cge_f (by omega) hk c7
        have hun : amS (txt (I 128)) en i sp (xTl.getD i 0 - k) k = if hrT (txt (I 128)) en sp = sg i k then (nI k, sp + 1) else amS (txt (I 128)) en i sp (xTl.getD i 0 - (k + 1)) (k + 1) := by rw [show xTl.getD i 0 - k = (xTl.getD i 0 - (k + 1)) + 1 by omega]; rfl
        refine x_aload_n dX11_among_10 rfl ?_
        refine x_callV (k2 := 0) (n2 := 0) dX11_among_11 LV_M_79 (r_here hx hq) rfl rfl (fxo_127 hx) rfl (Nat.le_of_ble_eq_true rfl) (Nat.le_of_ble_eq_true rfl) (Nat.le_of_ble_eq_true rfl) (Nat.le_of_ble_eq_true rfl) ?_
        rintro _ _ ⟨rfl, rfl⟩
        refine x_aload_n dX11_among_14 rfl ?_
        refine x_iload_n dX11_among_15 rfl ?_
        refine x_callVs (k2 := 0) (n2 := 0) dX11_among_16 LV_M_88 (j_char hi him) rfl rfl (xOs_o hi) rfl (Nat.le_of_ble_eq_true rfl) (Nat.le_of_ble_eq_true rfl) (Nat.le_of_ble_eq_true rfl) (Nat.le_of_ble_eq_true rfl) ?_
        rintro _ _ ⟨rfl, rfl⟩
        refine x_icmp_ne (tgt := 34) dX11_among_19 rfl (fun c19 => ?_) (fun c19 => ?_)
        · refine x_iinc (v := (nI (k + 1))) dX11_among_34 rfl (nI_1 _) (Nat.le_of_ble_eq_true rfl) ?_
          try simp only [xst, xst2, xclr, xset, xwide]
          refine x_goto (tgt := 2) dX11_among_37 rfl ?_
          exact ih2 (k + 1) (by omega) (by rw [← ha, hun, if_neg c19]) (by omega)
        · refine x_aload_n dX11_among_22 rfl ?_
          refine x_dup dX11_among_23 rfl ?_
          refine y_geti dX11_among_24 F_M_69 (fxo_127 hx) rfl hq.1 ?_
          refine x_iconst (v := 1) dX11_among_27 (by decide) ?_
          refine x_iadd dX11_among_28 ?_
          rw [nI_1]
          refine x_puti dX11_among_29 F_M_69 T_11_5 (fxo_127 hx) rfl rfl rfl ?_
          refine x_iload_n dX11_among_32 rfl ?_
          refine x_ireturn dX11_among_33 rfl nb_int ?_
          refine ⟨_, ?_, rfl, xFrs xFrm.rf, xFdx xFd.rf, ?_⟩
          · rw [← ha, hun, if_pos c19]
          · rw [← ha, hun, if_pos c19]; exact ⟨by rw [xup_at, if_pos ⟨rfl, rfl⟩], by rw [xup_at, if_neg (by decide)]; exact hq.2.1, by rw [xup_at, if_neg (by decide)]; exact hq.2.2.1, hq.2.2.2.1, by show sp + 1 ≤ 200; omega⟩
  exact K2 _ 0 (Nat.zero_le _) rfl (Nat.lt_succ_self _)

theorem fgL_le {T : Nat → Int32} {en : Nat} {wr : Bool} : ∀ m k v sp, (fgL T en wr m k v sp).2 ≤ sp + m
  | 0, _, _, _ => Nat.le_refl _
  | m + 1, k, v, sp => by
    unfold fgL
    split
    · have := fgL_le (T := T) (en := en) (wr := wr) m (k + 1) (10 * v + hrT T en sp - 48) (sp + 1); omega
    · show sp ≤ sp + (m + 1); omega
theorem fgS_le {T : Nat → Int32} {en sp : Nat} {wr : Bool} : (fgS T en sp wr).2 ≤ sp + 2 := fgL_le 2 0 0 sp

set_option maxHeartbeats 4000000 in
set_option maxRecDepth 100000 in
theorem r_tellsHere {g : xG} {nx : Nat} {sh : Nat → Nat × Nat} {P : Nat → Nat → Option Nat} {I : Nat → Nat → Int32} (hx : xFx sh P) {wh i sp en ac : Nat} {wr : Bool} (hw : wh ≤ 222) (hi : i < 10) (hq : xRd I sp en wr) (hs2 : sp < 180) (h4 : I 127 4 = nI ac) (ha4 : ac ≤ 4) : xMet g Y_M_tellsHere 5 0 0 [.ref 127, .int (nI wh), .ref (8 + i)] (nx, sh, P, I) (fun r σ => ∃ I1 : Nat → Nat → Int32, r = none ∧ σ = (nx, sh, P, I1) ∧ xFrm [127, 128] I I1 ∧ xFd [5, 7] I I1 ∧ xRd I1 (fgS (txt (I 128)) en (spL (txt (I 128)) en i sp wr (xTl.getD i 0)).1 (spL (txt (I 128)) en i sp wr (xTl.getD i 0)).2).2 en (fgW (txt (I 128)) en (spL (txt (I 128)) en i sp wr (xTl.getD i 0)).1 (spL (txt (I 128)) en i sp wr (xTl.getD i 0)).2) ∧ I1 128 = if (fgW (txt (I 128)) en (spL (txt (I 128)) en i sp wr (xTl.getD i 0)).1 (spL (txt (I 128)) en i sp wr (xTl.getD i 0)).2) = true then I 128 else upd (I 128) (wh + ac) (fgS (txt (I 128)) en (spL (txt (I 128)) en i sp wr (xTl.getD i 0)).1 (spL (txt (I 128)) en i sp wr (xTl.getD i 0)).2).1) := by
  refine xMet.of [some (.ref 127), some (.int (nI wh)), some (.ref (8 + i)), none] (by decide +kernel) (Nat.le_of_ble_eq_true rfl) rfl ?_
  have hl6 : xTl.getD i 0 ≤ 6 := sl_le ⟨i, hi⟩
  refine x_aload_n dX11_tellsHere_0 rfl ?_
  refine x_aload_n dX11_tellsHere_1 rfl ?_
  refine x_callV (k2 := 0) (n2 := 0) dX11_tellsHere_2 LV_M_125 (r_spells hx hi hq (by omega)) rfl rfl (fxo_127 hx) rfl (Nat.le_of_ble_eq_true rfl) (Nat.le_of_ble_eq_true rfl) (Nat.le_of_ble_eq_true rfl) (Nat.le_of_ble_eq_true rfl) ?_
  rintro _ _ ⟨I1, rfl, rfl, hF1, hD1, hq1⟩
  have e1 : I1 128 = I 128 := hF1 128 (by decide)
  have hle := spL_le (T := txt (I 128)) (en := en) (i := i) (sp := sp) (wr := wr) (xTl.getD i 0)
  refine x_aload_n dX11_tellsHere_5 rfl ?_
  refine x_callV (k2 := 0) (n2 := 0) dX11_tellsHere_6 LV_M_119 (r_figures (I := I1) hx hq1 (by omega)) rfl rfl (fxo_127 hx) rfl (Nat.le_of_ble_eq_true rfl) (Nat.le_of_ble_eq_true rfl) (Nat.le_of_ble_eq_true rfl) (Nat.le_of_ble_eq_true rfl) ?_
  rintro _ _ ⟨I2, rfl, rfl, hF2, hD2, hq2⟩
  rw [e1] at hq2
  rw [e1]
  have e2 : I2 128 = I 128 := (hF2 128 (by decide)).trans e1
  have hD : xFd [5, 7] I I2 := xFd.tr (l1 := [5, 7]) hD1 hD2
  have h42 : I2 127 4 = nI ac := (hD 4 (by decide)).trans h4
  refine x_istore_n dX11_tellsHere_9 (Nat.le_of_ble_eq_true rfl) ?_
  try simp only [xst, xst2, xclr, xset, xwide]
  refine x_aload_n dX11_tellsHere_10 rfl ?_
  refine y_geti dX11_tellsHere_11 F_M_75 (fxo_127 hx) rfl hq2.2.2.1 ?_
  refine x_if_ne (tgt := 29) dX11_tellsHere_14 rfl (fun c14 => ?_) (fun c14 => ?_)
  · refine x_return dX11_tellsHere_29 rfl ?_
    first | exact ⟨I2, rfl, rfl, (hF1.mono (l := [127, 128])).tr (l2 := [127]) hF2, hD, hq2, by rw [if_pos (bv_1 c14)]; exact e2⟩ | exact ⟨_, rfl, rfl, xFrv ((hF1.mono (l := [127, 128])).tr (l2 := [127]) hF2), xFdva hD, ⟨by rw [va_up_no (by decide)]; exact hq2.1, by rw [va_up_no (by decide)]; exact hq2.2.1, by rw [va_up_no (by decide)]; exact hq2.2.2.1, hq2.2.2.2.1, hq2.2.2.2.2⟩, by rw [if_neg (by rw [bv_0 c14]; decide), va_up_at, e2]⟩
  · refine x_aload_n dX11_tellsHere_17 rfl ?_
    refine y_getr dX11_tellsHere_18 F_M_9 (fxo_127 hx) rfl (fxp_127_1 hx) ?_
    refine x_iload_n dX11_tellsHere_21 rfl ?_
    refine x_aload_n dX11_tellsHere_22 rfl ?_
    refine y_geti dX11_tellsHere_23 F_M_96 (fxo_127 hx) rfl h42 ?_
    refine x_iadd dX11_tellsHere_26 ?_
    refine x_iload_n dX11_tellsHere_27 rfl ?_
    refine y_iastore dX11_tellsHere_28 (fxk_128 hx) (vi (j := (wh + ac)) (nadd (a := wh) (b := ac) rfl rfl) (by omega) (by decide)) (ci (j := (wh + ac)) (nadd (a := wh) (b := ac) rfl rfl) (by omega)) ?_
    rw [xup_va]
    refine x_return dX11_tellsHere_29 rfl ?_
    first | exact ⟨I2, rfl, rfl, (hF1.mono (l := [127, 128])).tr (l2 := [127]) hF2, hD, hq2, by rw [if_pos (bv_1 c14)]; exact e2⟩ | exact ⟨_, rfl, rfl, xFrv ((hF1.mono (l := [127, 128])).tr (l2 := [127]) hF2), xFdva hD, ⟨by rw [va_up_no (by decide)]; exact hq2.1, by rw [va_up_no (by decide)]; exact hq2.2.1, by rw [va_up_no (by decide)]; exact hq2.2.2.1, hq2.2.2.2.1, hq2.2.2.2.2⟩, by rw [if_neg (by rw [bv_0 c14]; decide), va_up_at, e2]⟩
