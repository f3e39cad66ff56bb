/-! the reference: reading a land's text -/
/-- the sign here: T the text, en its end -/
def hrT (T : Nat → Int32) (en sp : Nat) : Int32 := if sp < en then T sp else -1
theorem bv_fit {b : Bool} : fits .boolean (.int (bv b)) = true := by cases b <;> rfl
/-- MUST: spot and wrong behind it -/
def muW (T : Nat → Int32) (en sp : Nat) (wr : Bool) (c : Int32) : Bool := wr || !decide (hrT T en sp = c)
def muS (T : Nat → Int32) (en sp : Nat) (wr : Bool) (c : Int32) : Nat := if muW T en sp wr c = true then sp else sp + 1
/-- is a sign a figure -/
def isF (x : Int32) : Bool := decide (48 ≤ x ∧ x ≤ 57)
def fgL (T : Nat → Int32) (en : Nat) (wr : Bool) : Nat → Nat → Int32 → Nat → Int32 × Nat
  | 0, _, v, sp => (v, sp)
  | m + 1, k, v, sp => if wr = false ∧ isF (hrT T en sp) = true ∧ (k = 0 ∨ 0 < v) then fgL T en wr m (k + 1) (10 * v + hrT T en sp - 48) (sp + 1) else (v, sp)
def fgW (T : Nat → Int32) (en sp : Nat) (wr : Bool) : Bool := wr || !isF (hrT T en sp)
/-- FIGURES: number and spot behind it -/
def fgS (T : Nat → Int32) (en sp : Nat) (wr : Bool) : Int32 × Nat := fgL T en (fgW T en sp wr) 2 0 0 sp
abbrev txt (s : Nat → Int32) : Nat → Int32 := fun i => s (117 + i)
/-- the reader's fields -/
def xRd (I : Nat → Nat → Int32) (sp en : Nat) (wr : Bool) : Prop := I 127 5 = nI sp ∧ I 127 6 = nI en ∧ I 127 7 = bv wr ∧ en ≤ 100 ∧ sp ≤ 200

set_option maxHeartbeats 4000000 in
set_option maxRecDepth 100000 in
theorem r_here {g : xG} {nx : Nat} {sh : Nat → Nat × Nat} {P : Nat → Nat → Option Nat} {I : Nat → Nat → Int32} (hx : xFx sh P) {sp en : Nat} {wr : Bool} (hq : xRd I sp en wr) : xMet g Y_M_here 0 0 0 [.ref 127] (nx, sh, P, I) (fun r σ => r = some (.int (hrT (txt (I 128)) en sp)) ∧ σ = (nx, sh, P, I)) := by
  refine xMet.of [some (.ref 127)] (by decide +kernel) (Nat.le_of_ble_eq_true rfl) rfl ?_
  obtain ⟨h5, h6, h7, hen, hsp⟩ := hq
  refine x_aload_n dX11_here_0 rfl ?_
  refine y_geti dX11_here_1 F_M_69 (fxo_127 hx) rfl h5 ?_
  refine x_aload_n dX11_here_4 rfl ?_
  refine y_geti dX11_here_5 F_M_72 (fxo_127 hx) rfl h6 ?_
  refine x_icmp_ge (tgt := 26) dX11_here_8 rfl (fun c8 => ?_) (fun c8 => ?_)
  · have hge := (nI_leI (a := en) (b := sp) (by omega) (by omega)).mp c8
    refine x_iconst (v := (-1)) dX11_here_26 (by decide) ?_
    refine x_ireturn dX11_here_27 rfl nb_int ?_
    first | exact ⟨by unfold hrT; rw [if_pos hlt], rfl⟩ | exact ⟨by unfold hrT; rw [if_neg (by omega)], rfl⟩
  · have hlt : sp < en := Nat.lt_of_not_le (fun h => c8 ((nI_leI (by omega) (by omega)).mpr h))
    refine x_aload_n dX11_here_11 rfl ?_
    refine y_getr dX11_here_12 F_M_9 (fxo_127 hx) rfl (fxp_127_1 hx) ?_
    refine x_bipush (v := 117) dX11_here_15 (by decide) ?_
    refine x_aload_n dX11_here_17 rfl ?_
    refine y_geti dX11_here_18 F_M_69 (fxo_127 hx) rfl h5 ?_
    refine x_iadd dX11_here_21 ?_
    refine y_iaload dX11_here_22 (fxk_128 hx) (vi (j := (117 + sp)) (nadd (a := 117) (b := sp) rfl rfl) (by omega) (by decide)) (rI (j := (117 + sp)) (ci (nadd (a := 117) (b := sp) rfl rfl) (by omega)) rfl) ?_
    refine x_goto (tgt := 27) dX11_here_23 rfl ?_
    refine x_ireturn dX11_here_27 rfl nb_int ?_
    first | exact ⟨by unfold hrT; rw [if_pos hlt], rfl⟩ | exact ⟨by unfold hrT; rw [if_neg (by omega)], rfl⟩

set_option maxHeartbeats 4000000 in
set_option maxRecDepth 100000 in
theorem r_must {g : xG} {nx : Nat} {sh : Nat → Nat × Nat} {P : Nat → Nat → Option Nat} {I : Nat → Nat → Int32} (hx : xFx sh P) {c : Int32} {sp en : Nat} {wr : Bool} (hq : xRd I sp en wr) (hs2 : sp < 200) : xMet g Y_M_must 1 0 0 [.ref 127, .int c] (nx, sh, P, I) (fun r σ => ∃ I1 : Nat → Nat → Int32, r = none ∧ σ = (nx, sh, P, I1) ∧ xFrm [127] I I1 ∧ xFd [5, 7] I I1 ∧ xRd I1 (muS (txt (I 128)) en sp wr c) en (muW (txt (I 128)) en sp wr c)) := by
  refine xMet.of [some (.ref 127), some (.int c)] (by decide +kernel) (Nat.le_of_ble_eq_true rfl) rfl ?_
  obtain ⟨h5, h6, h7, hen, hsp⟩ := hq
  have J21 : ∀ (x : Int32) (hxv : x = bv (muW (txt (I 128)) en sp wr c)), xX g Y_M_must 1 0 0 (fun r σ => ∃ I1 : Nat → Nat → Int32, r = none ∧ σ = (nx, sh, P, I1) ∧ xFrm [127] I I1 ∧ xFd [5, 7] I I1 ∧ xRd I1 (muS (txt (I 128)) en sp wr c) en (muW (txt (I 128)) en sp wr c)) 21 [some (.ref 127), some (.int c)] [.int x, .ref 127] (nx, sh, P, I) := by
    intro x hxv
    rw [hxv]
    refine x_puti dX11_must_21 F_M_75 T_11_7 (fxo_127 hx) rfl bv_nb bv_fit ?_
    have J41 : ∀ (y : Int32) (hyv : nI sp + y = nI (muS (txt (I 128)) en sp wr c)), xX g Y_M_must 1 0 0 (fun r σ => ∃ I1 : Nat → Nat → Int32, r = none ∧ σ = (nx, sh, P, I1) ∧ xFrm [127] I I1 ∧ xFd [5, 7] I I1 ∧ xRd I1 (muS (txt (I 128)) en sp wr c) en (muW (txt (I 128)) en sp wr c)) 41 [some (.ref 127), some (.int c)] [.int y, .int (nI sp), .ref 127] (nx, sh, P, xup I 127 7 (bv (muW (txt (I 128)) en sp wr c))) := by
      intro y hyv
      refine x_iadd dX11_must_41 ?_
      rw [hyv]
      refine x_puti dX11_must_42 F_M_69 T_11_5 (fxo_127 hx) rfl rfl rfl ?_
      refine x_return dX11_must_45 rfl ?_
      exact ⟨_, rfl, rfl, xFrs (xFrs xFrm.rf), xFdx (xFdx xFd.rf), by rw [xup_at, if_pos ⟨rfl, rfl⟩], by rw [xup_at, if_neg (by decide), xup_at, if_neg (by decide)]; exact h6, by rw [xup_at, if_neg (by decide), xup_at, if_pos ⟨rfl, rfl⟩], hen, by unfold muS; split <;> omega⟩
    refine x_aload_n dX11_must_24 rfl ?_
    refine x_dup dX11_must_25 rfl ?_
    refine y_geti dX11_must_26 F_M_69 (fxo_127 hx) rfl (xup_at.trans ((if_neg (by decide)).trans h5)) ?_
    refine x_aload_n dX11_must_29 rfl ?_
    refine y_geti dX11_must_30 F_M_75 (fxo_127 hx) rfl (xup_at.trans (if_pos ⟨rfl, rfl⟩)) ?_
    refine x_if_eq (tgt := 40) dX11_must_33 rfl (fun c33 => ?_) (fun c33 => ?_)
    · refine x_iconst (v := 1) dX11_must_40 (by decide) ?_
      first | exact J41 _ (by unfold muS; rw [if_neg (by rw [bv_0 c33]; decide)]; exact nI_1 _) | exact J41 _ (by unfold muS; rw [if_pos (bv_1 c33)]; exact Int32.add_zero _)
    · refine x_iconst (v := 0) dX11_must_36 (by decide) ?_
      refine x_goto (tgt := 41) dX11_must_37 rfl ?_
      first | exact J41 _ (by unfold muS; rw [if_neg (by rw [bv_0 c33]; decide)]; exact nI_1 _) | exact J41 _ (by unfold muS; rw [if_pos (bv_1 c33)]; exact Int32.add_zero _)
  refine x_aload_n dX11_must_0 rfl ?_
  refine x_aload_n dX11_must_1 rfl ?_
  refine y_geti dX11_must_2 F_M_75 (fxo_127 hx) rfl h7 ?_
  refine x_if_ne (tgt := 16) dX11_must_5 rfl (fun c5 => ?_) (fun c5 => ?_)
  · refine x_iconst (v := 1) dX11_must_16 (by decide) ?_
    refine x_goto (tgt := 21) dX11_must_17 rfl ?_
    first | exact J21 _ (bvT (by unfold muW; rw [bv_1 c5]; rfl)) | exact J21 _ (bvT (by unfold muW; rw [decide_eq_false c13, Bool.not_false, Bool.or_true])) | exact J21 _ (bvF (by unfold muW; rw [bv_0 c5, decide_eq_true c13]; decide))
  · refine x_aload_n dX11_must_8 rfl ?_
    refine x_callV (k2 := 0) (n2 := 0) dX11_must_9 LV_M_79 (r_here hx ⟨h5, h6, h7, hen, hsp⟩) rfl rfl (fxo_127 hx) rfl (Nat.le_of_ble_eq_true rfl) (Nat.le_of_ble_eq_true rfl) (Nat.le_of_ble_eq_true rfl) (Nat.le_of_ble_eq_true rfl) ?_
    rintro _ _ ⟨rfl, rfl⟩
    refine x_iload_n dX11_must_12 rfl ?_
    refine x_icmp_eq (tgt := 20) dX11_must_13 rfl (fun c13 => ?_) (fun c13 => ?_)
    · refine x_iconst (v := 0) dX11_must_20 (by decide) ?_
      first | exact J21 _ (bvT (by unfold muW; rw [bv_1 c5]; rfl)) | exact J21 _ (bvT (by unfold muW; rw [decide_eq_false c13, Bool.not_false, Bool.or_true])) | exact J21 _ (bvF (by unfold muW; rw [bv_0 c5, decide_eq_true c13]; decide))
    · refine x_iconst (v := 1) dX11_must_16 (by decide) ?_
      refine x_goto (tgt := 21) dX11_must_17 rfl ?_
      first | exact J21 _ (bvT (by unfold muW; rw [bv_1 c5]; rfl)) | exact J21 _ (bvT (by unfold muW; rw [decide_eq_false c13, Bool.not_false, Bool.or_true])) | exact J21 _ (bvF (by unfold muW; rw [bv_0 c5, decide_eq_true c13]; decide))

set_option maxHeartbeats 4000000 in
set_option maxRecDepth 100000 in
theorem r_emits {g : xG} {nx : Nat} {sh : Nat → Nat × Nat} {P : Nat → Nat → Option Nat} {I : Nat → Nat → Int32} (hx : xFx sh P) {step : Int32} {ac mm : Nat} {wr : Bool} (h7 : I 127 7 = bv wr) (h4 : I 127 4 = nI ac) (ha4 : ac ≤ 4) (hm : I 128 (227 + ac) = nI mm) (hmm : mm < 140) : xMet g Y_M_emits 0 0 0 [.ref 127, .int step] (nx, sh, P, I) (fun r σ => ∃ I1 : Nat → Nat → Int32, r = none ∧ σ = (nx, sh, P, I1) ∧ xFrm [128] I I1 ∧ I1 128 = if wr = true then I 128 else upd (upd (I 128) (232 + 140 * ac + mm) step) (227 + ac) (nI (mm + 1))) := by
  refine xMet.of [some (.ref 127), some (.int step)] (by decide +kernel) (Nat.le_of_ble_eq_true rfl) rfl ?_
  refine x_aload_n dX11_emits_0 rfl ?_
  refine y_geti dX11_emits_1 F_M_75 (fxo_127 hx) rfl h7 ?_
  refine x_if_ne (tgt := 56) dX11_emits_4 rfl (fun c4 => ?_) (fun c4 => ?_)
  · refine x_return dX11_emits_56 rfl ?_
    first | exact ⟨I, rfl, rfl, xFrm.rf, by rw [if_pos (bv_1 c4)]⟩ | exact ⟨_, rfl, rfl, xFrv xFrm.rf, by rw [if_neg (by rw [bv_0 c4]; decide), va_up_at]⟩
  · refine x_aload_n dX11_emits_7 rfl ?_
    refine y_getr dX11_emits_8 F_M_9 (fxo_127 hx) rfl (fxp_127_1 hx) ?_
    refine x_sipush (v := 232) dX11_emits_11 (by decide) ?_
    refine x_sipush (v := 140) dX11_emits_14 (by decide) ?_
    refine x_aload_n dX11_emits_17 rfl ?_
    refine y_geti dX11_emits_18 F_M_96 (fxo_127 hx) rfl h4 ?_
    refine x_imul dX11_emits_21 ?_
    refine x_iadd dX11_emits_22 ?_
    refine x_aload_n dX11_emits_23 rfl ?_
    refine y_getr dX11_emits_24 F_M_9 (fxo_127 hx) rfl (fxp_127_1 hx) ?_
    refine x_sipush (v := 227) dX11_emits_27 (by decide) ?_
    refine x_aload_n dX11_emits_30 rfl ?_
    refine y_geti dX11_emits_31 F_M_96 (fxo_127 hx) rfl h4 ?_
    refine x_iadd dX11_emits_34 ?_
    refine y_iaload dX11_emits_35 (fxk_128 hx) (vi (j := (227 + ac)) (nadd (a := 227) (b := ac) rfl rfl) (by omega) (by decide)) (rI (j := (227 + ac)) (ci (nadd (a := 227) (b := ac) rfl rfl) (by omega)) hm) ?_
    refine x_iadd dX11_emits_36 ?_
    refine x_iload_n dX11_emits_37 rfl ?_
    refine y_iastore dX11_emits_38 (fxk_128 hx) (vi (j := ((232 + (140 * ac)) + mm)) (nadd (a := (232 + (140 * ac))) (b := mm) (nadd (a := 232) (b := (140 * ac)) rfl (nmul (a := 140) (b := ac) rfl rfl)) rfl) (by omega) (by decide)) (ci (j := ((232 + (140 * ac)) + mm)) (nadd (a := (232 + (140 * ac))) (b := mm) (nadd (a := 232) (b := (140 * ac)) rfl (nmul (a := 140) (b := ac) rfl rfl)) rfl) (by omega)) ?_
    rw [xup_va]
    refine x_aload_n dX11_emits_39 rfl ?_
    refine y_getr dX11_emits_40 F_M_9 (fxo_127 hx) rfl (fxp_127_1 hx) ?_
    refine x_sipush (v := 227) dX11_emits_43 (by decide) ?_
    refine x_aload_n dX11_emits_46 rfl ?_
    refine y_geti dX11_emits_47 F_M_96 (fxo_127 hx) rfl h4 ?_
    refine x_iadd dX11_emits_50 ?_
    refine x_dup2 dX11_emits_51 rfl rfl ?_
    refine y_iaload dX11_emits_52 (fxk_128 hx) (vi (j := (227 + ac)) (nadd (a := 227) (b := ac) rfl rfl) (by omega) (by decide)) (rI (j := (227 + ac)) (ci (nadd (a := 227) (b := ac) rfl rfl) (by omega)) ((congrFun va_up_at _).trans ((if_neg (by omega)).trans hm))) ?_
    refine x_iconst (v := 1) dX11_emits_53 (by decide) ?_
    refine x_iadd dX11_emits_54 ?_
    refine y_iastore dX11_emits_55 (fxk_128 hx) (vi (j := (227 + ac)) (nadd (a := 227) (b := ac) rfl rfl) (by omega) (by decide)) (ci (j := (227 + ac)) (nadd (a := 227) (b := ac) rfl rfl) (by omega)) ?_
    rw [xup_row, nI_1]
    refine x_return dX11_emits_56 rfl ?_
    first | exact ⟨I, rfl, rfl, xFrm.rf, by rw [if_pos (bv_1 c4)]⟩ | exact ⟨_, rfl, rfl, xFrv xFrm.rf, by rw [if_neg (by rw [bv_0 c4]; decide), va_up_at]⟩

set_option maxHeartbeats 4000000 in
set_option maxRecDepth 100000 in
theorem r_figures {g : xG} {nx : Nat} {sh : Nat → Nat × Nat} {P : Nat → Nat → Option Nat} {I : Nat → Nat → Int32} (hx : xFx sh P) {sp en : Nat} {wr : Bool} (hq : xRd I sp en wr) (hs2 : sp < 190) : xMet g Y_M_figures 1 0 0 [.ref 127] (nx, sh, P, I) (fun r σ => ∃ I1 : Nat → Nat → Int32, r = some (.int (fgS (txt (I 128)) en sp wr).1) ∧ σ = (nx, sh, P, I1) ∧ xFrm [127] I I1 ∧ xFd [5, 7] I I1 ∧ xRd I1 (fgS (txt (I 128)) en sp wr).2 en (fgW (txt (I 128)) en sp wr)) := by
  refine xMet.of [some (.ref 127), none, none] (by decide +kernel) (Nat.le_of_ble_eq_true rfl) rfl ?_
  obtain ⟨h5, h6, h7, hen, hsp⟩ := hq
  have J27 : ∀ (x : Int32) (hxv : x = bv (fgW (txt (I 128)) en sp wr)), xX g Y_M_figures 1 0 0 (fun r σ => ∃ I1 : Nat → Nat → Int32, r = some (.int (fgS (txt (I 128)) en sp wr).1) ∧ σ = (nx, sh, P, I1) ∧ xFrm [127] I I1 ∧ xFd [5, 7] I I1 ∧ xRd I1 (fgS (txt (I 128)) en sp wr).2 en (fgW (txt (I 128)) en sp wr)) 27 [some (.ref 127), none, none] [.int x, .ref 127] (nx, sh, P, I) := by
    intro x hxv
    rw [hxv]
    refine x_puti dX11_figures_27 F_M_75 T_11_7 (fxo_127 hx) rfl bv_nb bv_fit ?_
    refine x_iconst (v := 0) dX11_figures_30 (by decide) ?_
    refine x_istore_n dX11_figures_31 (Nat.le_of_ble_eq_true rfl) ?_
    try simp only [xst, xst2, xclr, xset, xwide]
    refine x_iconst (v := 0) dX11_figures_32 (by decide) ?_
    refine x_istore_n dX11_figures_33 (Nat.le_of_ble_eq_true rfl) ?_
    try simp only [xst, xst2, xclr, xset, xwide]
    have K34 : ∀ (fuel : Nat) (k sq : Nat) (v : Int32) (I2 : Nat → Nat → Int32) (hk : k ≤ 2) (hF : xFrm [127] I I2) (hD : xFd [5, 7] I I2) (hq2 : xRd I2 sq en (fgW (txt (I 128)) en sp wr)) (hs : sq ≤ sp + k) (ha : fgL (txt (I 128)) en (fgW (txt (I 128)) en sp wr) (2 - k) k v sq = fgS (txt (I 128)) en sp wr), 2 - k < fuel → xX g Y_M_figures 1 0 0 (fun r σ => ∃ I1 : Nat → Nat → Int32, r = some (.int (fgS (txt (I 128)) en sp wr).1) ∧ σ = (nx, sh, P, I1) ∧ xFrm [127] I I1 ∧ xFd [5, 7] I I1 ∧ xRd I1 (fgS (txt (I 128)) en sp wr).2 en (fgW (txt (I 128)) en sp wr)) 34 [some (.ref 127), some (.int v), some (.int (nI k))] [] (nx, sh, P, I2) := by
      intro fuel
      induction fuel with
      | zero => intro k sq v I2 hk hF hD hq2 hs ha hm; exact absurd hm (Nat.not_lt_zero _)
      | succ fuel ih34 =>
        intro k sq v I2 hk hF hD hq2 hs ha hm
        refine x_iload_n dX11_figures_34 rfl ?_
        refine x_iconst (v := 2) dX11_figures_35 (by decide) ?_
        refine x_icmp_ge (tgt := 97) dX11_figures_36 rfl (fun c36 => ?_) (fun c36 => ?_)
        · have hie : k = 2 := cge_t (by decide) hk c36
          have hst : fgL (txt (I 128)) en (fgW (txt (I 128)) en sp wr) (2 - k) k v sq = (v, sq) := by subst hie; rfl
          obtain ⟨g5, g6, g7, -, gs⟩ := id hq2
          refine x_iload_n dX11_figures_97 rfl ?_
          refine x_ireturn dX11_figures_98 rfl nb_int ?_
          refine ⟨I2, ?_, rfl, hF, hD, ?_⟩
          · rw [← ha, hst]
          · rw [← ha, hst]; exact hq2
        · have him : k < 2 := cge_f (by decide) hk c36
          have e128 : I2 128 = I 128 := hF 128 (by decide)
          obtain ⟨g5, g6, g7, -, gs⟩ := id hq2
          have hun : fgL (txt (I 128)) en (fgW (txt (I 128)) en sp wr) (2 - k) k v sq = if (fgW (txt (I 128)) en sp wr) = false ∧ isF (hrT (txt (I 128)) en sq) = true ∧ (k = 0 ∨ 0 < v) then fgL (txt (I 128)) en (fgW (txt (I 128)) en sp wr) (2 - (k + 1)) (k + 1) (10 * v + hrT (txt (I 128)) en sq - 48) (sq + 1) else (v, sq) := by rw [show 2 - k = (2 - (k + 1)) + 1 by omega]; rfl
          refine x_aload_n dX11_figures_39 rfl ?_
          refine y_geti dX11_figures_40 F_M_75 (fxo_127 hx) rfl g7 ?_
          refine x_if_ne (tgt := 97) dX11_figures_43 rfl (fun c43 => ?_) (fun c43 => ?_)
          · have hst : fgL (txt (I 128)) en (fgW (txt (I 128)) en sp wr) (2 - k) k v sq = (v, sq) := by
              rw [hun, if_neg (fun z => c43 (by rw [z.1]; rfl))]
            refine x_iload_n dX11_figures_97 rfl ?_
            refine x_ireturn dX11_figures_98 rfl nb_int ?_
            refine ⟨I2, ?_, rfl, hF, hD, ?_⟩
            · rw [← ha, hst]
            · rw [← ha, hst]; exact hq2
          · skip
            refine x_aload_n dX11_figures_46 rfl ?_
            refine x_callV (k2 := 0) (n2 := 0) dX11_figures_47 LV_M_79 (r_here hx (I := I2) hq2) rfl rfl (fxo_127 hx) rfl (Nat.le_of_ble_eq_true rfl) (Nat.le_of_ble_eq_true rfl) (Nat.le_of_ble_eq_true rfl) (Nat.le_of_ble_eq_true rfl) ?_
            rintro _ _ ⟨rfl, rfl⟩
            rw [e128]
            refine x_bipush (v := 48) dX11_figures_50 (by decide) ?_
            refine x_bipush (v := 57) dX11_figures_52 (by decide) ?_
            refine x_callS (k2 := 0) (n2 := 0) dX11_figures_54 LS_M_65 r_in rfl rfl (Nat.le_of_ble_eq_true rfl) (Nat.le_of_ble_eq_true rfl) (Nat.le_of_ble_eq_true rfl) (Nat.le_of_ble_eq_true rfl) ?_
            rintro _ _ ⟨rfl, rfl⟩
            refine x_if_eq (tgt := 97) dX11_figures_57 rfl (fun c57 => ?_) (fun c57 => ?_)
            · have hst : fgL (txt (I 128)) en (fgW (txt (I 128)) en sp wr) (2 - k) k v sq = (v, sq) := by
                rw [hun, if_neg (fun z => b_f c57 (of_decide_eq_true z.2.1))]
              refine x_iload_n dX11_figures_97 rfl ?_
              refine x_ireturn dX11_figures_98 rfl nb_int ?_
              refine ⟨I2, ?_, rfl, hF, hD, ?_⟩
              · rw [← ha, hst]
              · rw [← ha, hst]; exact hq2
            · skip
              refine x_iload_n dX11_figures_60 rfl ?_
              refine x_if_eq (tgt := 68) dX11_figures_61 rfl (fun c61 => ?_) (fun c61 => ?_)
              · refine x_bipush (v := 10) dX11_figures_68 (by decide) ?_
                refine x_iload_n dX11_figures_70 rfl ?_
                refine x_imul dX11_figures_71 ?_
                refine x_aload_n dX11_figures_72 rfl ?_
                refine x_callV (k2 := 0) (n2 := 0) dX11_figures_73 LV_M_79 (r_here hx (I := I2) hq2) rfl rfl (fxo_127 hx) rfl (Nat.le_of_ble_eq_true rfl) (Nat.le_of_ble_eq_true rfl) (Nat.le_of_ble_eq_true rfl) (Nat.le_of_ble_eq_true rfl) ?_
                rintro _ _ ⟨rfl, rfl⟩
                rw [e128]
                refine x_iadd dX11_figures_76 ?_
                refine x_bipush (v := 48) dX11_figures_77 (by decide) ?_
                refine x_isub dX11_figures_79 ?_
                refine x_istore_n dX11_figures_80 (Nat.le_of_ble_eq_true rfl) ?_
                try simp only [xst, xst2, xclr, xset, xwide]
                refine x_aload_n dX11_figures_81 rfl ?_
                refine x_dup dX11_figures_82 rfl ?_
                refine y_geti dX11_figures_83 F_M_69 (fxo_127 hx) rfl g5 ?_
                refine x_iconst (v := 1) dX11_figures_86 (by decide) ?_
                refine x_iadd dX11_figures_87 ?_
                refine x_puti dX11_figures_88 F_M_69 T_11_5 (fxo_127 hx) rfl rfl rfl ?_
                refine x_iinc (v := (nI (k + 1))) dX11_figures_91 rfl (nI_1 _) (Nat.le_of_ble_eq_true rfl) ?_
                try simp only [xst, xst2, xclr, xset, xwide]
                refine x_goto (tgt := 34) dX11_figures_94 rfl ?_
                first
                | (have h9 : 0 < v := Int32.not_le.mp c65
                   exact ih34 (k + 1) (sq + 1) _ _ (by omega) (xFrs hF) (xFdx hD) ⟨by rw [xup_at, if_pos ⟨rfl, rfl⟩]; exact nI_1 _, by rw [xup_at, if_neg (by decide)]; exact g6, by rw [xup_at, if_neg (by decide)]; exact g7, hen, by omega⟩ (by omega) (by rw [← ha, hun, if_pos ⟨bv_0 c43, decide_eq_true (b_t c57), Or.inr h9⟩]) (by omega))
                | exact ih34 (k + 1) (sq + 1) _ _ (by omega) (xFrs hF) (xFdx hD) ⟨by rw [xup_at, if_pos ⟨rfl, rfl⟩]; exact nI_1 _, by rw [xup_at, if_neg (by decide)]; exact g6, by rw [xup_at, if_neg (by decide)]; exact g7, hen, by omega⟩ (by omega) (by rw [← ha, hun, if_pos ⟨bv_0 c43, decide_eq_true (b_t c57), Or.inl ((nI_le0 (n := k) (by omega)).mp (by rw [c61]; decide))⟩]) (by omega)
              · refine x_iload_n dX11_figures_64 rfl ?_
                refine x_if_le (tgt := 97) dX11_figures_65 rfl (fun c65 => ?_) (fun c65 => ?_)
                · have hst : fgL (txt (I 128)) en (fgW (txt (I 128)) en sp wr) (2 - k) k v sq = (v, sq) := by
                    rw [hun, if_neg (fun z => z.2.2.elim (fun y => c61 (by rw [y]; rfl)) (fun y => absurd y (Int32.not_lt.mpr c65)))]
                  refine x_iload_n dX11_figures_97 rfl ?_
                  refine x_ireturn dX11_figures_98 rfl nb_int ?_
                  refine ⟨I2, ?_, rfl, hF, hD, ?_⟩
                  · rw [← ha, hst]
                  · rw [← ha, hst]; exact hq2
                · skip
                  refine x_bipush (v := 10) dX11_figures_68 (by decide) ?_
                  refine x_iload_n dX11_figures_70 rfl ?_
                  refine x_imul dX11_figures_71 ?_
                  refine x_aload_n dX11_figures_72 rfl ?_
                  refine x_callV (k2 := 0) (n2 := 0) dX11_figures_73 LV_M_79 (r_here hx (I := I2) hq2) rfl rfl (fxo_127 hx) rfl (Nat.le_of_ble_eq_true rfl) (Nat.le_of_ble_eq_true rfl) (Nat.le_of_ble_eq_true rfl) (Nat.le_of_ble_eq_true rfl) ?_
                  rintro _ _ ⟨rfl, rfl⟩
                  rw [e128]
                  refine x_iadd dX11_figures_76 ?_
                  refine x_bipush (v := 48) dX11_figures_77 (by decide) ?_
                  refine x_isub dX11_figures_79 ?_
                  refine x_istore_n dX11_figures_80 (Nat.le_of_ble_eq_true rfl) ?_
                  try simp only [xst, xst2, xclr, xset, xwide]
                  refine x_aload_n dX11_figures_81 rfl ?_
                  refine x_dup dX11_figures_82 rfl ?_
                  refine y_geti dX11_figures_83 F_M_69 (fxo_127 hx) rfl g5 ?_
                  refine x_iconst (v := 1) dX11_figures_86 (by decide) ?_
                  refine x_iadd dX11_figures_87 ?_
                  refine x_puti dX11_figures_88 F_M_69 T_11_5 (fxo_127 hx) rfl rfl rfl ?_
                  refine x_iinc (v := (nI (k + 1))) dX11_figures_91 rfl (nI_1 _) (Nat.le_of_ble_eq_true rfl) ?_
                  try simp only [xst, xst2, xclr, xset, xwide]
                  refine x_goto (tgt := 34) dX11_figures_94 rfl ?_
                  first
                  | (have h9 : 0 < v := Int32.not_le.mp c65
                     exact ih34 (k + 1) (sq + 1) _ _ (by omega) (xFrs hF) (xFdx hD) ⟨by rw [xup_at, if_pos ⟨rfl, rfl⟩]; exact nI_1 _, by rw [xup_at, if_neg (by decide)]; exact g6, by rw [xup_at, if_neg (by decide)]; exact g7, hen, by omega⟩ (by omega) (by rw [← ha, hun, if_pos ⟨bv_0 c43, decide_eq_true (b_t c57), Or.inr h9⟩]) (by omega))
                  | exact ih34 (k + 1) (sq + 1) _ _ (by omega) (xFrs hF) (xFdx hD) ⟨by rw [xup_at, if_pos ⟨rfl, rfl⟩]; exact nI_1 _, by rw [xup_at, if_neg (by decide)]; exact g6, by rw [xup_at, if_neg (by decide)]; exact g7, hen, by omega⟩ (by omega) (by rw [← ha, hun, if_pos ⟨bv_0 c43, decide_eq_true (b_t c57), Or.inl ((nI_le0 (n := k) (by omega)).mp (by rw [c61]; decide))⟩]) (by omega)
    exact K34 _ 0 sp 0 _ (by decide) (xFrs xFrm.rf) (xFdx xFd.rf) ⟨by rw [xup_at, if_neg (by decide)]; exact h5, by rw [xup_at, if_neg (by decide)]; exact h6, by rw [xup_at, if_pos ⟨rfl, rfl⟩], hen, hsp⟩ (by omega) rfl (Nat.lt_succ_self _)
  refine x_aload_n dX11_figures_0 rfl ?_
  refine x_aload_n dX11_figures_1 rfl ?_
  refine y_geti dX11_figures_2 F_M_75 (fxo_127 hx) rfl h7 ?_
  refine x_if_ne (tgt := 22) dX11_figures_5 rfl (fun c5 => ?_) (fun c5 => ?_)
  · refine x_iconst (v := 1) dX11_figures_22 (by decide) ?_
    refine x_goto (tgt := 27) dX11_figures_23 rfl ?_
    first | exact J27 _ (bvT (by unfold fgW; rw [bv_1 c5]; rfl)) | exact J27 _ (bvT (by unfold fgW isF; rw [decide_eq_false (b_f c19), Bool.not_false, Bool.or_true])) | exact J27 _ (bvF (by unfold fgW isF; rw [bv_0 c5, decide_eq_true (b_t c19)]; decide))
  · refine x_aload_n dX11_figures_8 rfl ?_
    refine x_callV (k2 := 0) (n2 := 0) dX11_figures_9 LV_M_79 (r_here hx (I := I) ⟨h5, h6, h7, hen, hsp⟩) rfl rfl (fxo_127 hx) rfl (Nat.le_of_ble_eq_true rfl) (Nat.le_of_ble_eq_true rfl) (Nat.le_of_ble_eq_true rfl) (Nat.le_of_ble_eq_true rfl) ?_
    rintro _ _ ⟨rfl, rfl⟩
    refine x_bipush (v := 48) dX11_figures_12 (by decide) ?_
    refine x_bipush (v := 57) dX11_figures_14 (by decide) ?_
    refine x_callS (k2 := 0) (n2 := 0) dX11_figures_16 LS_M_65 r_in rfl rfl (Nat.le_of_ble_eq_true rfl) (Nat.le_of_ble_eq_true rfl) (Nat.le_of_ble_eq_true rfl) (Nat.le_of_ble_eq_true rfl) ?_
    rintro _ _ ⟨rfl, rfl⟩
    refine x_if_ne (tgt := 26) dX11_figures_19 rfl (fun c19 => ?_) (fun c19 => ?_)
    · refine x_iconst (v := 0) dX11_figures_26 (by decide) ?_
      first | exact J27 _ (bvT (by unfold fgW; rw [bv_1 c5]; rfl)) | exact J27 _ (bvT (by unfold fgW isF; rw [decide_eq_false (b_f c19), Bool.not_false, Bool.or_true])) | exact J27 _ (bvF (by unfold fgW isF; rw [bv_0 c5, decide_eq_true (b_t c19)]; decide))
    · refine x_iconst (v := 1) dX11_figures_22 (by decide) ?_
      refine x_goto (tgt := 27) dX11_figures_23 rfl ?_
      first | exact J27 _ (bvT (by unfold fgW; rw [bv_1 c5]; rfl)) | exact J27 _ (bvT (by unfold fgW isF; rw [decide_eq_false (b_f c19), Bool.not_false, Bool.or_true])) | exact J27 _ (bvF (by unfold fgW isF; rw [bv_0 c5, decide_eq_true (b_t c19)]; decide))
