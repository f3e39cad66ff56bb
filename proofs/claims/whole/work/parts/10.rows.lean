/-! Rows -/
/-- a Rows at r: its bounds at lo and hi, the row at at, w wide -/
def xRw (sh : Nat → Nat × Nat) (P : Nat → Nat → Option Nat) (r lo hi at_ w : Nat) : Prop := (sh r).1 = 7 ∧ P r 0 = some lo ∧ P r 1 = some hi ∧ P r 2 = some at_ ∧ sh lo = (12, w) ∧ sh hi = (12, w) ∧ sh at_ = (12, w) ∧ w ≤ 100 ∧ lo ≠ hi ∧ lo ≠ at_ ∧ hi ≠ at_
/-- how many there are in a row -/
def xSz (f : Nat → Int32) : Nat → Int32
  | 0 => 0
  | m + 1 => xSz f m + (if f m < 0 then -f m else f m)
/-- the product of how many numbers each place has -/
def xPr (lo hi : Nat → Int32) : Nat → Int32
  | 0 => 1
  | m + 1 => xPr lo hi m * (hi m - lo m + 1)
/-- the next row: the last number the fastest; below place m -/
def xNx (lo hi : Nat → Int32) : Nat → (Nat → Int32) → Nat → Int32
  | 0, f => f
  | m + 1, f => if f m < hi m then upd f m (f m + 1) else xNx lo hi m (upd f m (lo m))

theorem cge_t {i m : Nat} (hm : m < 2 ^ 31) (hi : i ≤ m) (c : nI m ≤ nI i) : i = m := by
  rcases Nat.lt_or_ge i m with z | z
  · exact absurd c (nI_ge z hm)
  · omega
theorem cge_f {i m : Nat} (hm : m < 2 ^ 31) (hi : i ≤ m) (c : ¬ nI m ≤ nI i) : i < m := by
  rcases Nat.lt_or_ge i m with z | z
  · exact z
  · exact absurd (nI_le z (by omega)) c
theorem pm_t {m : Nat} (hm : m < 2 ^ 31) (c : nI m - 1 < 0) : m = 0 := by
  cases m with
  | zero => rfl
  | succ m => rw [nI_pred] at c; exact absurd c (nI_pos (by omega))
theorem pm_f {m : Nat} (c : ¬ nI m - 1 < 0) : ∃ q, m = q + 1 := by
  cases m with
  | zero => exact absurd (by decide : nI 0 - 1 < 0) c
  | succ m => exact ⟨m, rfl⟩
theorem i_m1 {x : Int32} : x + Int32.ofInt (-1) = x - 1 := by rw [Int32.sub_eq_add_neg]; rfl

set_option maxHeartbeats 4000000 in
set_option maxRecDepth 100000 in
theorem m_Rows_bound {g : xG} {nx : Nat} {sh : Nat → Nat × Nat} {P : Nat → Nat → Option Nat} {I : Nat → Nat → Int32} {r lo hg at_ w : Nat} (hR : xRw sh P r lo hg at_ w) {p : Nat} {l h : Int32} (hp : p < w) : xMet g Y_Rows_bound 0 0 0 [.ref r, .int (nI p), .int l, .int h] (nx, sh, P, I) (fun z σ => z = none ∧ σ = (nx, sh, P, xup (xup I lo p l) hg p h)) := by
  refine xMet.of [some (.ref r), some (.int (nI p)), some (.int l), some (.int h)] (by decide +kernel) (Nat.le_of_ble_eq_true rfl) rfl ?_
  obtain ⟨hR1, hR2, hR3, hR4, hR5, hR6, hR7, hR8, hR9, hR10, hR11⟩ := id hR
  refine x_iload_n dX7_bound_0 rfl ?_
  refine x_if_lt (tgt := 36) dX7_bound_1 rfl (fun c1 => ?_) (fun c1 => ?_)
  · exact absurd c1 (nI_pos (by omega))
  · refine x_iload_n dX7_bound_4 rfl ?_
    refine x_aload_n dX7_bound_5 rfl ?_
    refine y_getr dX7_bound_6 F_Rows_13 hR1 rfl hR2 ?_
    refine y_alen dX7_bound_9 hR5 (by decide) ?_
    refine x_icmp_ge (tgt := 36) dX7_bound_10 rfl (fun c10 => ?_) (fun c10 => ?_)
    · exact absurd c10 (nI_ge hp (by omega))
    · refine x_iload_n dX7_bound_13 rfl ?_
      refine x_aload_n dX7_bound_14 rfl ?_
      refine y_getr dX7_bound_15 F_Rows_19 hR1 rfl hR3 ?_
      refine y_alen dX7_bound_18 hR6 (by decide) ?_
      refine x_icmp_ge (tgt := 36) dX7_bound_19 rfl (fun c19 => ?_) (fun c19 => ?_)
      · exact absurd c19 (nI_ge hp (by omega))
      · refine x_aload_n dX7_bound_22 rfl ?_
        refine y_getr dX7_bound_23 F_Rows_13 hR1 rfl hR2 ?_
        refine x_iload_n dX7_bound_26 rfl ?_
        refine x_iload_n dX7_bound_27 rfl ?_
        refine y_iastore dX7_bound_28 hR5 (vp_in_nI hp (by omega)) (nI_clamp (by omega)) ?_
        refine x_aload_n dX7_bound_29 rfl ?_
        refine y_getr dX7_bound_30 F_Rows_19 hR1 rfl hR3 ?_
        refine x_iload_n dX7_bound_33 rfl ?_
        refine x_iload_n dX7_bound_34 rfl ?_
        refine y_iastore dX7_bound_35 hR6 (vp_in_nI hp (by omega)) (nI_clamp (by omega)) ?_
        refine x_return dX7_bound_36 rfl ?_
        exact ⟨rfl, rfl⟩

set_option maxHeartbeats 4000000 in
set_option maxRecDepth 100000 in
theorem m_Rows_start {g : xG} {nx : Nat} {sh : Nat → Nat × Nat} {P : Nat → Nat → Option Nat} {I : Nat → Nat → Int32} {r lo hg at_ w : Nat} (hR : xRw sh P r lo hg at_ w)  : xMet g Y_Rows_start 0 0 0 [.ref r] (nx, sh, P, I) (fun z σ => z = some (.int (xPr (I lo) (I hg) w)) ∧ σ = (nx, sh, P, va_up I at_ (xTk (I lo) (I at_) w))) := by
  refine xMet.of [some (.ref r), none, none] (by decide +kernel) (Nat.le_of_ble_eq_true rfl) rfl ?_
  obtain ⟨hR1, hR2, hR3, hR4, hR5, hR6, hR7, hR8, hR9, hR10, hR11⟩ := id hR
  refine x_iconst (v := 1) dX7_start_0 (by decide) ?_
  refine x_istore_n dX7_start_1 (Nat.le_of_ble_eq_true rfl) ?_
  try simp only [xst, xst2, xclr, xset, xwide]
  refine x_iconst (v := 0) dX7_start_2 (by decide) ?_
  refine x_istore_n dX7_start_3 (Nat.le_of_ble_eq_true rfl) ?_
  try simp only [xst, xst2, xclr, xset, xwide]
  refine y_st (I' := va_up I at_ (xTk (I lo) (I at_) 0)) (by rw [xTk_0, va_up_id]) ?_
  have K4 : ∀ (fuel : Nat) (i : Nat) (acc : Int32) (hi : i ≤ w) (hacc : acc = xPr (I lo) (I hg) i), w - i < fuel → xX g Y_Rows_start 0 0 0 (fun z σ => z = some (.int (xPr (I lo) (I hg) w)) ∧ σ = (nx, sh, P, va_up I at_ (xTk (I lo) (I at_) w))) 4 [some (.ref r), some (.int acc), some (.int (nI i))] [] (nx, sh, P, va_up I at_ (xTk (I lo) (I at_) i)) := by
    intro fuel
    induction fuel with
    | zero => intro i acc hi hacc hm; exact absurd hm (Nat.not_lt_zero _)
    | succ fuel ih4 =>
      intro i acc hi hacc hm
      refine x_iload_n dX7_start_4 rfl ?_
      refine x_aload_n dX7_start_5 rfl ?_
      refine y_getr dX7_start_6 F_Rows_22 hR1 rfl hR4 ?_
      refine y_alen dX7_start_9 hR7 (by decide) ?_
      refine x_icmp_ge (tgt := 67) dX7_start_10 rfl (fun c10 => ?_) (fun c10 => ?_)
      · have hie : i = w := cge_t (by omega) hi c10
        refine x_iload_n dX7_start_67 rfl ?_
        refine x_ireturn dX7_start_68 rfl nb_int ?_
        subst hie
        exact ⟨by rw [hacc], rfl⟩
      · have him : i < w := cge_f (by omega) hi c10
        refine x_iload_n dX7_start_13 rfl ?_
        refine x_aload_n dX7_start_14 rfl ?_
        refine y_getr dX7_start_15 F_Rows_13 hR1 rfl hR2 ?_
        refine y_alen dX7_start_18 hR5 (by decide) ?_
        refine x_icmp_ge (tgt := 67) dX7_start_19 rfl (fun c19 => ?_) (fun c19 => ?_)
        · exact absurd c19 (nI_ge him (by omega))
        · refine x_iload_n dX7_start_22 rfl ?_
          refine x_aload_n dX7_start_23 rfl ?_
          refine y_getr dX7_start_24 F_Rows_19 hR1 rfl hR3 ?_
          refine y_alen dX7_start_27 hR6 (by decide) ?_
          refine x_icmp_ge (tgt := 67) dX7_start_28 rfl (fun c28 => ?_) (fun c28 => ?_)
          · exact absurd c28 (nI_ge him (by omega))
          · refine x_aload_n dX7_start_31 rfl ?_
            refine y_getr dX7_start_32 F_Rows_22 hR1 rfl hR4 ?_
            refine x_iload_n dX7_start_35 rfl ?_
            refine x_aload_n dX7_start_36 rfl ?_
            refine y_getr dX7_start_37 F_Rows_13 hR1 rfl hR2 ?_
            refine x_iload_n dX7_start_40 rfl ?_
            refine y_iaload dX7_start_41 hR5 (vp_in_nI him (by omega)) (by rw [va_up_no hR10, nI_clamp (by omega)]) ?_
            refine y_iastore dX7_start_42 hR7 (vp_in_nI him (by omega)) (nI_clamp (by omega)) ?_
            rw [xup_row, xTk_s]
            refine x_iload_n dX7_start_43 rfl ?_
            refine x_aload_n dX7_start_44 rfl ?_
            refine y_getr dX7_start_45 F_Rows_19 hR1 rfl hR3 ?_
            refine x_iload_n dX7_start_48 rfl ?_
            refine y_iaload dX7_start_49 hR6 (vp_in_nI him (by omega)) (by rw [va_up_no hR11, nI_clamp (by omega)]) ?_
            refine x_aload_n dX7_start_50 rfl ?_
            refine y_getr dX7_start_51 F_Rows_13 hR1 rfl hR2 ?_
            refine x_iload_n dX7_start_54 rfl ?_
            refine y_iaload dX7_start_55 hR5 (vp_in_nI him (by omega)) (by rw [va_up_no hR10, nI_clamp (by omega)]) ?_
            refine x_isub dX7_start_56 ?_
            refine x_iconst (v := 1) dX7_start_57 (by decide) ?_
            refine x_iadd dX7_start_58 ?_
            refine x_imul dX7_start_59 ?_
            refine x_istore_n dX7_start_60 (Nat.le_of_ble_eq_true rfl) ?_
            try simp only [xst, xst2, xclr, xset, xwide]
            refine x_iinc (v := (nI (i + 1))) dX7_start_61 rfl (nI_1 _) (Nat.le_of_ble_eq_true rfl) ?_
            try simp only [xst, xst2, xclr, xset, xwide]
            refine x_goto (tgt := 4) dX7_start_64 rfl ?_
            exact ih4 (i + 1) _ (by omega) (by rw [hacc]; rfl) (by omega)
  exact K4 _ 0 1 (Nat.zero_le _) rfl (Nat.lt_succ_self _)

set_option maxHeartbeats 4000000 in
set_option maxRecDepth 100000 in
theorem m_Rows_step {g : xG} {nx : Nat} {sh : Nat → Nat × Nat} {P : Nat → Nat → Option Nat} {I : Nat → Nat → Int32} {r lo hg at_ w : Nat} (hR : xRw sh P r lo hg at_ w)  : xMet g Y_Rows_step 0 0 0 [.ref r] (nx, sh, P, I) (fun z σ => z = none ∧ σ = (nx, sh, P, va_up I at_ (xNx (I lo) (I hg) w (I at_)))) := by
  refine xMet.of [some (.ref r), none] (by decide +kernel) (Nat.le_of_ble_eq_true rfl) rfl ?_
  obtain ⟨hR1, hR2, hR3, hR4, hR5, hR6, hR7, hR8, hR9, hR10, hR11⟩ := id hR
  refine x_aload_n dX7_step_0 rfl ?_
  refine y_getr dX7_step_1 F_Rows_22 hR1 rfl hR4 ?_
  refine y_alen dX7_step_4 hR7 (by decide) ?_
  refine x_iconst (v := 1) dX7_step_5 (by decide) ?_
  refine x_isub dX7_step_6 ?_
  refine x_istore_n dX7_step_7 (Nat.le_of_ble_eq_true rfl) ?_
  try simp only [xst, xst2, xclr, xset, xwide]
  refine y_st (I' := va_up I at_ (I at_)) (by rw [va_up_id]) ?_
  have K8 : ∀ (fuel : Nat) (m : Nat) (f : Nat → Int32) (hm0 : m ≤ w) (hf : xNx (I lo) (I hg) w (I at_) = xNx (I lo) (I hg) m f), m < fuel → xX g Y_Rows_step 0 0 0 (fun z σ => z = none ∧ σ = (nx, sh, P, va_up I at_ (xNx (I lo) (I hg) w (I at_)))) 8 [some (.ref r), some (.int (nI m - 1))] [] (nx, sh, P, va_up I at_ f) := by
    intro fuel
    induction fuel with
    | zero => intro m f hm0 hf hm; exact absurd hm (Nat.not_lt_zero _)
    | succ fuel ih8 =>
      intro m f hm0 hf hm
      refine x_iload_n dX7_step_8 rfl ?_
      refine x_if_lt (tgt := 75) dX7_step_9 rfl (fun c9 => ?_) (fun c9 => ?_)
      · have hie : m = 0 := pm_t (by omega) c9
        subst hie
        refine x_return dX7_step_75 rfl ?_
        exact ⟨rfl, by rw [hf]; rfl⟩
      · obtain ⟨q, rfl⟩ := pm_f c9
        simp only [nI_pred]
        have him : q < w := by omega
        refine x_iload_n dX7_step_12 rfl ?_
        refine x_aload_n dX7_step_13 rfl ?_
        refine y_getr dX7_step_14 F_Rows_13 hR1 rfl hR2 ?_
        refine y_alen dX7_step_17 hR5 (by decide) ?_
        refine x_icmp_ge (tgt := 30) dX7_step_18 rfl (fun c18 => ?_) (fun c18 => ?_)
        · exact absurd c18 (nI_ge him (by omega))
        · refine x_iload_n dX7_step_21 rfl ?_
          refine x_aload_n dX7_step_22 rfl ?_
          refine y_getr dX7_step_23 F_Rows_19 hR1 rfl hR3 ?_
          refine y_alen dX7_step_26 hR6 (by decide) ?_
          refine x_icmp_lt (tgt := 31) dX7_step_27 rfl (fun c27 => ?_) (fun c27 => ?_)
          · refine x_aload_n dX7_step_31 rfl ?_
            refine y_getr dX7_step_32 F_Rows_22 hR1 rfl hR4 ?_
            refine x_iload_n dX7_step_35 rfl ?_
            refine y_iaload dX7_step_36 hR7 (vp_in_nI him (by omega)) (by rw [va_up_at, nI_clamp (by omega)]) ?_
            refine x_aload_n dX7_step_37 rfl ?_
            refine y_getr dX7_step_38 F_Rows_19 hR1 rfl hR3 ?_
            refine x_iload_n dX7_step_41 rfl ?_
            refine y_iaload dX7_step_42 hR6 (vp_in_nI him (by omega)) (by rw [va_up_no hR11, nI_clamp (by omega)]) ?_
            refine x_icmp_ge (tgt := 57) dX7_step_43 rfl (fun c43 => ?_) (fun c43 => ?_)
            · refine x_aload_n dX7_step_57 rfl ?_
              refine y_getr dX7_step_58 F_Rows_22 hR1 rfl hR4 ?_
              refine x_iload_n dX7_step_61 rfl ?_
              refine x_aload_n dX7_step_62 rfl ?_
              refine y_getr dX7_step_63 F_Rows_13 hR1 rfl hR2 ?_
              refine x_iload_n dX7_step_66 rfl ?_
              refine y_iaload dX7_step_67 hR5 (vp_in_nI him (by omega)) (by rw [va_up_no hR10, nI_clamp (by omega)]) ?_
              refine y_iastore dX7_step_68 hR7 (vp_in_nI him (by omega)) (nI_clamp (by omega)) ?_
              rw [xup_row]
              refine x_iinc (v := (nI q - 1)) dX7_step_69 rfl i_m1 (Nat.le_of_ble_eq_true rfl) ?_
              try simp only [xst, xst2, xclr, xset, xwide]
              refine x_goto (tgt := 8) dX7_step_72 rfl ?_
              exact ih8 q _ (by omega) (by rw [hf]; show (if f q < I hg q then _ else _) = _; rw [if_neg (Int32.not_lt.mpr c43)]) (by omega)
            · refine x_aload_n dX7_step_46 rfl ?_
              refine y_getr dX7_step_47 F_Rows_22 hR1 rfl hR4 ?_
              refine x_iload_n dX7_step_50 rfl ?_
              refine x_dup2 dX7_step_51 rfl rfl ?_
              refine y_iaload dX7_step_52 hR7 (vp_in_nI him (by omega)) (by rw [va_up_at, nI_clamp (by omega)]) ?_
              refine x_iconst (v := 1) dX7_step_53 (by decide) ?_
              refine x_iadd dX7_step_54 ?_
              refine y_iastore dX7_step_55 hR7 (vp_in_nI him (by omega)) (nI_clamp (by omega)) ?_
              rw [xup_row]
              refine x_return dX7_step_56 rfl ?_
              refine ⟨rfl, ?_⟩
              rw [hf]
              show _ = (nx, sh, P, va_up I at_ (if f q < I hg q then upd f q (f q + 1) else xNx (I lo) (I hg) q (upd f q (I lo q))))
              rw [if_pos (Int32.not_le.mp c43)]
          · exact absurd (nI_lt him (by omega)) c27
  exact K8 _ w (I at_) (Nat.le_refl _) rfl (Nat.lt_succ_self _)

set_option maxHeartbeats 4000000 in
set_option maxRecDepth 100000 in
theorem m_Rows_get {g : xG} {nx : Nat} {sh : Nat → Nat × Nat} {P : Nat → Nat → Option Nat} {I : Nat → Nat → Int32} {r lo hg at_ w : Nat} (hR : xRw sh P r lo hg at_ w) {p : Nat} (hp : p < w) : xMet g Y_Rows_get 0 0 0 [.ref r, .int (nI p)] (nx, sh, P, I) (fun z σ => z = some (.int (I at_ p)) ∧ σ = (nx, sh, P, I)) := by
  refine xMet.of [some (.ref r), some (.int (nI p))] (by decide +kernel) (Nat.le_of_ble_eq_true rfl) rfl ?_
  obtain ⟨hR1, hR2, hR3, hR4, hR5, hR6, hR7, hR8, hR9, hR10, hR11⟩ := id hR
  refine x_iload_n dX7_get_0 rfl ?_
  refine x_if_lt (tgt := 22) dX7_get_1 rfl (fun c1 => ?_) (fun c1 => ?_)
  · exact absurd c1 (nI_pos (by omega))
  · refine x_iload_n dX7_get_4 rfl ?_
    refine x_aload_n dX7_get_5 rfl ?_
    refine y_getr dX7_get_6 F_Rows_22 hR1 rfl hR4 ?_
    refine y_alen dX7_get_9 hR7 (by decide) ?_
    refine x_icmp_ge (tgt := 22) dX7_get_10 rfl (fun c10 => ?_) (fun c10 => ?_)
    · exact absurd c10 (nI_ge hp (by omega))
    · refine x_aload_n dX7_get_13 rfl ?_
      refine y_getr dX7_get_14 F_Rows_22 hR1 rfl hR4 ?_
      refine x_iload_n dX7_get_17 rfl ?_
      refine y_iaload dX7_get_18 hR7 (vp_in_nI hp (by omega)) (congrArg (I at_) (nI_clamp (by omega))) ?_
      refine x_goto (tgt := 23) dX7_get_19 rfl ?_
      refine x_ireturn dX7_get_23 rfl nb_int ?_
      exact ⟨rfl, rfl⟩

set_option maxHeartbeats 4000000 in
set_option maxRecDepth 100000 in
theorem m_Rows_size {g : xG} {nx : Nat} {sh : Nat → Nat × Nat} {P : Nat → Nat → Option Nat} {I : Nat → Nat → Int32} {r lo hg at_ w : Nat} (hR : xRw sh P r lo hg at_ w)  : xMet g Y_Rows_size 1 0 0 [.ref r] (nx, sh, P, I) (fun z σ => z = some (.int (xSz (I at_) w)) ∧ σ = (nx, sh, P, I)) := by
  refine xMet.of [some (.ref r), none, none, none, none, none] (by decide +kernel) (Nat.le_of_ble_eq_true rfl) rfl ?_
  obtain ⟨hR1, hR2, hR3, hR4, hR5, hR6, hR7, hR8, hR9, hR10, hR11⟩ := id hR
  refine x_iconst (v := 0) dX7_size_0 (by decide) ?_
  refine x_istore_n dX7_size_1 (Nat.le_of_ble_eq_true rfl) ?_
  try simp only [xst, xst2, xclr, xset, xwide]
  refine x_aload_n dX7_size_2 rfl ?_
  refine y_getr dX7_size_3 F_Rows_22 hR1 rfl hR4 ?_
  refine x_astore_n dX7_size_6 (Nat.le_of_ble_eq_true rfl) ?_
  try simp only [xst, xst2, xclr, xset, xwide]
  refine x_aload_n dX7_size_7 rfl ?_
  refine y_alen dX7_size_8 hR7 (by decide) ?_
  refine x_istore_n dX7_size_9 (Nat.le_of_ble_eq_true rfl) ?_
  try simp only [xst, xst2, xclr, xset, xwide]
  refine x_iconst (v := 0) dX7_size_10 (by decide) ?_
  refine x_istore dX7_size_11 (Nat.le_of_ble_eq_true rfl) ?_
  try simp only [xst, xst2, xclr, xset, xwide]
  have K13 : ∀ (fuel : Nat) (i : Nat) (acc : Int32) (v5 : Option Value) (hi : i ≤ w) (hacc : acc = xSz (I at_) i), w - i < fuel → xX g Y_Rows_size 1 0 0 (fun z σ => z = some (.int (xSz (I at_) w)) ∧ σ = (nx, sh, P, I)) 13 [some (.ref r), some (.int acc), some (.ref at_), some (.int (nI w)), some (.int (nI i)), v5] [] (nx, sh, P, I) := by
    intro fuel
    induction fuel with
    | zero => intro i acc v5 hi hacc hm; exact absurd hm (Nat.not_lt_zero _)
    | succ fuel ih13 =>
      intro i acc v5 hi hacc hm
      refine x_iload dX7_size_13 rfl ?_
      refine x_iload_n dX7_size_15 rfl ?_
      refine x_icmp_ge (tgt := 39) dX7_size_16 rfl (fun c16 => ?_) (fun c16 => ?_)
      · have hie : i = w := cge_t (by omega) hi c16
        refine x_iload_n dX7_size_39 rfl ?_
        refine x_ireturn dX7_size_40 rfl nb_int ?_
        subst hie
        exact ⟨by rw [hacc], rfl⟩
      · have him : i < w := cge_f (by omega) hi c16
        refine x_aload_n dX7_size_19 rfl ?_
        refine x_iload dX7_size_20 rfl ?_
        refine y_iaload dX7_size_22 hR7 (vp_in_nI him (by omega)) (congrArg (I at_) (nI_clamp (by omega))) ?_
        refine x_istore dX7_size_23 (Nat.le_of_ble_eq_true rfl) ?_
        try simp only [xst, xst2, xclr, xset, xwide]
        refine x_iload_n dX7_size_25 rfl ?_
        refine x_iload dX7_size_26 rfl ?_
        refine x_callS (k2 := 0) (n2 := 0) dX7_size_28 LS_Rows_25 m_abs rfl rfl (Nat.le_of_ble_eq_true rfl) (Nat.le_of_ble_eq_true rfl) (Nat.le_of_ble_eq_true rfl) (Nat.le_of_ble_eq_true rfl) ?_
        rintro _ _ ⟨rfl, rfl⟩
        refine x_iadd dX7_size_31 ?_
        refine x_istore_n dX7_size_32 (Nat.le_of_ble_eq_true rfl) ?_
        try simp only [xst, xst2, xclr, xset, xwide]
        refine x_iinc (v := (nI (i + 1))) dX7_size_33 rfl (nI_1 _) (Nat.le_of_ble_eq_true rfl) ?_
        try simp only [xst, xst2, xclr, xset, xwide]
        refine x_goto (tgt := 13) dX7_size_36 rfl ?_
        exact ih13 (i + 1) _ _ (by omega) (by rw [hacc]; rfl) (by omega)
  exact K13 _ 0 0 none (Nat.zero_le _) rfl (Nat.lt_succ_self _)

set_option maxHeartbeats 4000000 in
set_option maxRecDepth 100000 in
theorem m_Rows_sum {g : xG} {nx : Nat} {sh : Nat → Nat × Nat} {P : Nat → Nat → Option Nat} {I : Nat → Nat → Int32} {r lo hg at_ w : Nat} (hR : xRw sh P r lo hg at_ w) {b : Nat} (hb : sh b = (12, w)) : xMet g Y_Rows_sum 0 0 0 [.ref r, .ref b] (nx, sh, P, I) (fun z σ => z = some (.int (xSm (I at_) (I b) 0 w)) ∧ σ = (nx, sh, P, I)) := by
  refine xMet.of [some (.ref r), some (.ref b), none, none] (by decide +kernel) (Nat.le_of_ble_eq_true rfl) rfl ?_
  obtain ⟨hR1, hR2, hR3, hR4, hR5, hR6, hR7, hR8, hR9, hR10, hR11⟩ := id hR
  refine x_iconst (v := 0) dX7_sum_0 (by decide) ?_
  refine x_istore_n dX7_sum_1 (Nat.le_of_ble_eq_true rfl) ?_
  try simp only [xst, xst2, xclr, xset, xwide]
  refine x_iconst (v := 0) dX7_sum_2 (by decide) ?_
  refine x_istore_n dX7_sum_3 (Nat.le_of_ble_eq_true rfl) ?_
  try simp only [xst, xst2, xclr, xset, xwide]
  have K4 : ∀ (fuel : Nat) (i : Nat) (acc : Int32) (hi : i ≤ w) (hacc : acc = xSm (I at_) (I b) 0 i), w - i < fuel → xX g Y_Rows_sum 0 0 0 (fun z σ => z = some (.int (xSm (I at_) (I b) 0 w)) ∧ σ = (nx, sh, P, I)) 4 [some (.ref r), some (.ref b), some (.int acc), some (.int (nI i))] [] (nx, sh, P, I) := by
    intro fuel
    induction fuel with
    | zero => intro i acc hi hacc hm; exact absurd hm (Nat.not_lt_zero _)
    | succ fuel ih4 =>
      intro i acc hi hacc hm
      refine x_iload_n dX7_sum_4 rfl ?_
      refine x_aload_n dX7_sum_5 rfl ?_
      refine y_getr dX7_sum_6 F_Rows_22 hR1 rfl hR4 ?_
      refine y_alen dX7_sum_9 hR7 (by decide) ?_
      refine x_icmp_ge (tgt := 38) dX7_sum_10 rfl (fun c10 => ?_) (fun c10 => ?_)
      · have hie : i = w := cge_t (by omega) hi c10
        refine x_iload_n dX7_sum_38 rfl ?_
        refine x_ireturn dX7_sum_39 rfl nb_int ?_
        subst hie
        exact ⟨by rw [hacc], rfl⟩
      · have him : i < w := cge_f (by omega) hi c10
        refine x_iload_n dX7_sum_13 rfl ?_
        refine x_aload_n dX7_sum_14 rfl ?_
        refine y_alen dX7_sum_15 hb (by decide) ?_
        refine x_icmp_ge (tgt := 38) dX7_sum_16 rfl (fun c16 => ?_) (fun c16 => ?_)
        · exact absurd c16 (nI_ge him (by omega))
        · refine x_iload_n dX7_sum_19 rfl ?_
          refine x_aload_n dX7_sum_20 rfl ?_
          refine y_getr dX7_sum_21 F_Rows_22 hR1 rfl hR4 ?_
          refine x_iload_n dX7_sum_24 rfl ?_
          refine y_iaload dX7_sum_25 hR7 (vp_in_nI him (by omega)) (congrArg (I at_) (nI_clamp (by omega))) ?_
          refine x_aload_n dX7_sum_26 rfl ?_
          refine x_iload_n dX7_sum_27 rfl ?_
          refine y_iaload dX7_sum_28 hb (vp_in_nI him (by omega)) (congrArg (I b) (nI_clamp (by omega))) ?_
          refine x_imul dX7_sum_29 ?_
          refine x_iadd dX7_sum_30 ?_
          refine x_istore_n dX7_sum_31 (Nat.le_of_ble_eq_true rfl) ?_
          try simp only [xst, xst2, xclr, xset, xwide]
          refine x_iinc (v := (nI (i + 1))) dX7_sum_32 rfl (nI_1 _) (Nat.le_of_ble_eq_true rfl) ?_
          try simp only [xst, xst2, xclr, xset, xwide]
          refine x_goto (tgt := 4) dX7_sum_35 rfl ?_
          exact ih4 (i + 1) _ (by omega) (by rw [hacc]; show _ = xSm (I at_) (I b) 0 i + I at_ (0 + i) * I b i; rw [Nat.zero_add]) (by omega)
  exact K4 _ 0 0 (Nat.zero_le _) rfl (Nat.lt_succ_self _)

set_option maxHeartbeats 4000000 in
set_option maxRecDepth 100000 in
theorem m_Rows_copyInto {g : xG} {nx : Nat} {sh : Nat → Nat × Nat} {P : Nat → Nat → Option Nat} {I : Nat → Nat → Int32} {r lo hg at_ w : Nat} (hR : xRw sh P r lo hg at_ w) {b : Nat} (hb : sh b = (12, w)) : xMet g Y_Rows_copyInto 1 0 0 [.ref r, .ref b] (nx, sh, P, I) (fun z σ => z = none ∧ σ = (nx, sh, P, va_up I b (xTk (I at_) (I b) w))) := by
  refine xMet.of [some (.ref r), some (.ref b)] (by decide +kernel) (Nat.le_of_ble_eq_true rfl) rfl ?_
  obtain ⟨hR1, hR2, hR3, hR4, hR5, hR6, hR7, hR8, hR9, hR10, hR11⟩ := id hR
  refine x_aload_n dX7_copyInto_0 rfl ?_
  refine y_getr dX7_copyInto_1 F_Rows_22 hR1 rfl hR4 ?_
  refine x_iconst (v := 0) dX7_copyInto_4 (by decide) ?_
  refine x_aload_n dX7_copyInto_5 rfl ?_
  refine x_iconst (v := 0) dX7_copyInto_6 (by decide) ?_
  refine x_aload_n dX7_copyInto_7 rfl ?_
  refine y_getr dX7_copyInto_8 F_Rows_22 hR1 rfl hR4 ?_
  refine y_alen dX7_copyInto_11 hR7 (by decide) ?_
  refine x_aload_n dX7_copyInto_12 rfl ?_
  refine y_alen dX7_copyInto_13 hb (by decide) ?_
  refine x_callS (k2 := 0) (n2 := 0) dX7_copyInto_14 LS_Rows_29 m_min rfl rfl (Nat.le_of_ble_eq_true rfl) (Nat.le_of_ble_eq_true rfl) (Nat.le_of_ble_eq_true rfl) (Nat.le_of_ble_eq_true rfl) ?_
  rintro _ _ ⟨rfl, rfl⟩
  rw [show (if nI w ≤ nI w then nI w else nI w) = nI w from ite_self _]
  refine y_copy0 dX7_copyInto_17 CP_Rows_32 hR7 hb (by omega) (Nat.le_refl _) (Nat.le_refl _) (Nat.le_of_ble_eq_true rfl) (Nat.le_of_ble_eq_true rfl) ?_
  refine x_return dX7_copyInto_20 rfl ?_
  exact ⟨rfl, rfl⟩
