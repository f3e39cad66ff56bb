/-! the class: guesses weighed -/
theorem xSm_s {f g : Nat → Int32} {a m : Nat} : xSm f g a (m + 1) = xSm f g a m + f (a + m) * g m := rfl
/-- WORTHS by a guess: 0 where there is no coin -/
def gwV (s : Nat → Int32) (v : Nat → Nat) (c : Nat) : Int32 := if c < cN s 0 then wb s c (v c) else 0
/-- by how much BUY k is dearer by a guess -/
def sur (s : Nat → Int32) (v : Nat → Nat) (k : Nat) : Int32 := sbR s v k (cN s 0) - s (47 + k)
def sfN (s : Nat → Int32) (v : Nat → Nat) (ch : Int32) : Nat → Nat → Nat
  | 0, k => k
  | m + 1, k => if sur s v k < 0 ∨ ch < sur s v k then k else sfN s v ch m (k + 1)
theorem sfN_s {s : Nat → Int32} {v : Nat → Nat} {ch : Int32} {m k : Nat} : sfN s v ch (m + 1) k = if sur s v k < 0 ∨ ch < sur s v k then k else sfN s v ch m (k + 1) := rfl
/-- the least cheat needed (61: by none), n BUYS -/
def cnN (s : Nat → Int32) (v : Nat → Nat) : Nat → Nat → Int32 → Int32
  | 0, _, nd => nd
  | m + 1, k, nd => if sur s v k < 0 then 61 else cnN s v m (k + 1) (if nd ≤ sur s v k then sur s v k else nd)
theorem cnN_s {s : Nat → Int32} {v : Nat → Nat} {m k : Nat} {nd : Int32} : cnN s v (m + 1) k nd = if sur s v k < 0 then 61 else cnN s v m (k + 1) (if nd ≤ sur s v k then sur s v k else nd) := rfl
theorem xSm_b {s f g : Nat → Int32} {v : Nat → Nat} {k a : Nat} (hf : ∀ j, j < 4 → f (a + j) = s (53 + 4 * k + j)) (hg : ∀ j, j < 4 → g j = gwV s v j) : ∀ m, m ≤ 4 → xSm f g a m = sbR s v k (min m (cN s 0))
  | 0, _ => by rw [Nat.zero_min]; rfl
  | m + 1, hm => by
    rw [xSm_s, xSm_b hf hg m (by omega), hf m (by omega), hg m (by omega)]
    unfold gwV
    by_cases h : m < cN s 0
    · rw [if_pos h, Nat.min_eq_left (by omega), Nat.min_eq_left (by omega)]; rfl
    · rw [if_neg h, Int32.mul_zero, Int32.add_zero, Nat.min_eq_right (by omega), Nat.min_eq_right (by omega)]
theorem xrG {sh : Nat → Nat × Nat} {P : Nat → Nat → Option Nat} (hx : xFx sh P) : xRw sh P 101 102 103 104 4 := ⟨fxo_101 hx, fxp_101_0 hx, fxp_101_1 hx, fxp_101_2 hx, fxk_102 hx, fxk_103 hx, fxk_104 hx, by decide, by decide, by decide, by decide⟩
theorem xrP {sh : Nat → Nat × Nat} {P : Nat → Nat → Option Nat} (hx : xFx sh P) : xRw sh P 112 113 114 115 4 := ⟨fxo_112 hx, fxp_112_0 hx, fxp_112_1 hx, fxp_112_2 hx, fxk_113 hx, fxk_114 hx, fxk_115 hx, by decide, by decide, by decide, by decide⟩
theorem xrB {sh : Nat → Nat × Nat} {P : Nat → Nat → Option Nat} (hx : xFx sh P) : xRw sh P 119 120 121 122 5 := ⟨fxo_119 hx, fxp_119_0 hx, fxp_119_1 hx, fxp_119_2 hx, fxk_120 hx, fxk_121 hx, fxk_122 hx, by decide, by decide, by decide, by decide⟩
set_option maxHeartbeats 4000000 in
set_option maxRecDepth 100000 in
theorem m_Guesses_outcome {g : xG} {nx : Nat} {sh : Nat → Nat × Nat} {P : Nat → Nat → Option Nat} {I : Nat → Nat → Int32} {x y z : Int32} : xMet g Y_Guesses_outcome 0 0 0 [.int x, .int y, .int z] (nx, sh, P, I) (fun r σ => r = some (.int ((x * 4 + y) * 3 + z + 1)) ∧ σ = (nx, sh, P, I)) := by
  refine xMet.of [some (.int x), some (.int y), some (.int z)] (by decide +kernel) (Nat.le_of_ble_eq_true rfl) rfl ?_
  refine x_iload_n dX3_outcome_0 rfl ?_
  refine x_iconst (v := 4) dX3_outcome_1 (by decide) ?_
  refine x_imul dX3_outcome_2 ?_
  refine x_iload_n dX3_outcome_3 rfl ?_
  refine x_iadd dX3_outcome_4 ?_
  refine x_iconst (v := 3) dX3_outcome_5 (by decide) ?_
  refine x_imul dX3_outcome_6 ?_
  refine x_iload_n dX3_outcome_7 rfl ?_
  refine x_iadd dX3_outcome_8 ?_
  refine x_iconst (v := 1) dX3_outcome_9 (by decide) ?_
  refine x_iadd dX3_outcome_10 ?_
  refine x_ireturn dX3_outcome_11 rfl nb_int ?_
  exact ⟨rfl, rfl⟩

set_option maxHeartbeats 4000000 in
set_option maxRecDepth 100000 in
theorem m_Guesses_having {g : xG} {nx : Nat} {sh : Nat → Nat × Nat} {P : Nat → Nat → Option Nat} {I : Nat → Nat → Int32} (hx : xFx sh P) {c w : Nat} (hc : c < 4) (hw : w < 10) : xMet g Y_Guesses_having 0 0 0 [.ref 100, .int (nI c), .int (nI w)] (nx, sh, P, I) (fun r σ => r = some (.int (I 107 (10 * c + w))) ∧ σ = (nx, sh, P, I)) := by
  refine xMet.of [some (.ref 100), some (.int (nI c)), some (.int (nI w)), none] (by decide +kernel) (Nat.le_of_ble_eq_true rfl) rfl ?_
  refine x_iload_n dX3_having_0 rfl ?_
  refine x_bipush (v := 10) dX3_having_1 (by decide) ?_
  refine x_imul dX3_having_3 ?_
  refine x_iload_n dX3_having_4 rfl ?_
  refine x_iadd dX3_having_5 ?_
  rw [show nI c * (10 : Int32) = nI (c * 10) from pk_mul c 10, nI_add]
  refine x_istore_n dX3_having_6 (Nat.le_of_ble_eq_true rfl) ?_
  try simp only [xst, xst2, xclr, xset, xwide]
  refine x_iload_n dX3_having_7 rfl ?_
  refine x_if_lt (tgt := 29) dX3_having_8 rfl (fun c8 => ?_) (fun c8 => ?_)
  · exact absurd c8 (nI_pos (by omega))
  · refine x_iload_n dX3_having_11 rfl ?_
    refine x_aload_n dX3_having_12 rfl ?_
    refine y_getr dX3_having_13 F_Guesses_31 (fxo_100 hx) rfl (fxp_100_5 hx) ?_
    refine y_alen dX3_having_16 (fxk_107 hx) (by decide) ?_
    refine x_icmp_ge (tgt := 29) dX3_having_17 rfl (fun c17 => ?_) (fun c17 => ?_)
    · exact absurd ((nI_leI (by decide) (by omega)).mp c17) (by omega)
    · refine x_aload_n dX3_having_20 rfl ?_
      refine y_getr dX3_having_21 F_Guesses_31 (fxo_100 hx) rfl (fxp_100_5 hx) ?_
      refine x_iload_n dX3_having_24 rfl ?_
      refine y_iaload dX3_having_25 (fxk_107 hx) (vi rfl (show c * 10 + w < 40 by omega) (by decide)) (rI (j := 10 * c + w) (ci rfl (by omega) |>.trans (by omega)) rfl) ?_
      refine x_goto (tgt := 30) dX3_having_26 rfl ?_
      refine x_ireturn dX3_having_30 rfl nb_int ?_
      exact ⟨rfl, rfl⟩

set_option maxHeartbeats 4000000 in
set_option maxRecDepth 100000 in
theorem m_Guesses_lowest {g : xG} {nx : Nat} {sh : Nat → Nat × Nat} {P : Nat → Nat → Option Nat} {I : Nat → Nat → Int32} (hx : xFx sh P) {c : Nat} {f : Nat → Nat} (hc4 : c < 4) (hT : ∀ w, 1 ≤ w → w < 10 → I 107 (10 * c + w) = nI (f w)) (hf : ∀ w, f w < 2 ^ 31) : xMet g Y_Guesses_lowest 1 0 0 [.ref 100, .int (nI c)] (nx, sh, P, I) (fun r σ => r = some (.int (loS f 9 1)) ∧ σ = (nx, sh, P, I)) := by
  refine xMet.of [some (.ref 100), some (.int (nI c)), none] (by decide +kernel) (Nat.le_of_ble_eq_true rfl) rfl ?_
  refine x_iconst (v := 1) dX3_lowest_0 (by decide) ?_
  refine x_istore_n dX3_lowest_1 (Nat.le_of_ble_eq_true rfl) ?_
  try simp only [xst, xst2, xclr, xset, xwide]
  have K2 : ∀ (fuel : Nat) (w : Nat) (hw1 : 1 ≤ w) (hw : w ≤ 10) (hl : loS f (10 - w) w = loS f 9 1), 10 - w < fuel → xX g Y_Guesses_lowest 1 0 0 (fun r σ => r = some (.int (loS f 9 1)) ∧ σ = (nx, sh, P, I)) 2 [some (.ref 100), some (.int (nI c)), some (.int (nI w))] [] (nx, sh, P, I) := by
    intro fuel
    induction fuel with
    | zero => intro w hw1 hw hl hm; exact absurd hm (Nat.not_lt_zero _)
    | succ fuel ih2 =>
      intro w hw1 hw hl hm
      refine x_iload_n dX3_lowest_2 rfl ?_
      refine x_bipush (v := 9) dX3_lowest_3 (by decide) ?_
      refine x_icmp_gt (tgt := 25) dX3_lowest_5 rfl (fun c5 => ?_) (fun c5 => ?_)
      · have hw9 : w = 10 := by have h9 : 9 < w := (nI_ltI (a := 9) (by decide) (by omega)).mp c5; omega
        refine x_bipush (v := (-5)) dX3_lowest_25 (by decide) ?_
        refine x_ireturn dX3_lowest_27 rfl nb_int ?_
        exact ⟨by rw [← hl, hw9]; rfl, rfl⟩
      · have hw9 : w < 10 := by have h9 : ¬ 9 < w := fun z => c5 ((nI_ltI (a := 9) (by decide) (by omega)).mpr z); omega
        refine x_aload_n dX3_lowest_8 rfl ?_
        refine x_iload_n dX3_lowest_9 rfl ?_
        refine x_iload_n dX3_lowest_10 rfl ?_
        refine x_callV (k2 := 0) (n2 := 0) dX3_lowest_11 LV_Guesses_122 (m_Guesses_having hx hc4 hw9) rfl rfl (fxo_100 hx) rfl (Nat.le_of_ble_eq_true rfl) (Nat.le_of_ble_eq_true rfl) (Nat.le_of_ble_eq_true rfl) (Nat.le_of_ble_eq_true rfl) ?_
        rintro _ _ ⟨rfl, rfl⟩
        rw [hT w hw1 hw9]
        refine x_if_le (tgt := 19) dX3_lowest_14 rfl (fun c14 => ?_) (fun c14 => ?_)
        · refine x_iinc (v := (nI (w + 1))) dX3_lowest_19 rfl (nI_1 _) (Nat.le_of_ble_eq_true rfl) ?_
          try simp only [xst, xst2, xclr, xset, xwide]
          refine x_goto (tgt := 2) dX3_lowest_22 rfl ?_
          exact ih2 (w + 1) (by omega) (by omega) (by rw [← hl, show 10 - w = (10 - (w + 1)) + 1 by omega]; show _ = if 0 < f w then nI w else _; rw [if_neg (by rw [(nI_le0 (hf w)).mp c14]; decide)]) (by omega)
        · refine x_iload_n dX3_lowest_17 rfl ?_
          refine x_ireturn dX3_lowest_18 rfl nb_int ?_
          exact ⟨by rw [← hl, show 10 - w = (10 - (w + 1)) + 1 by omega]; show _ = some (Value.int (if 0 < f w then nI w else _)); rw [if_pos (by rcases Nat.eq_zero_or_pos (f w) with z | z; exact absurd (by rw [z]; decide) c14; exact z)], rfl⟩
  exact K2 _ 1 (by decide) (by decide) rfl (Nat.lt_succ_self _)

set_option maxHeartbeats 4000000 in
set_option maxRecDepth 100000 in
theorem m_Guesses_highest {g : xG} {nx : Nat} {sh : Nat → Nat × Nat} {P : Nat → Nat → Option Nat} {I : Nat → Nat → Int32} (hx : xFx sh P) {c : Nat} {f : Nat → Nat} (hc4 : c < 4) (hT : ∀ w, 1 ≤ w → w < 10 → I 107 (10 * c + w) = nI (f w)) (hf : ∀ w, f w < 2 ^ 31) : xMet g Y_Guesses_highest 1 0 0 [.ref 100, .int (nI c)] (nx, sh, P, I) (fun r σ => r = some (.int (hiS f 9)) ∧ σ = (nx, sh, P, I)) := by
  refine xMet.of [some (.ref 100), some (.int (nI c)), none] (by decide +kernel) (Nat.le_of_ble_eq_true rfl) rfl ?_
  refine x_bipush (v := 9) dX3_highest_0 (by decide) ?_
  refine x_istore_n dX3_highest_2 (Nat.le_of_ble_eq_true rfl) ?_
  try simp only [xst, xst2, xclr, xset, xwide]
  have K3 : ∀ (fuel : Nat) (w : Nat) (hw : w ≤ 9) (hl : hiS f w = hiS f 9), w < fuel → xX g Y_Guesses_highest 1 0 0 (fun r σ => r = some (.int (hiS f 9)) ∧ σ = (nx, sh, P, I)) 3 [some (.ref 100), some (.int (nI c)), some (.int (nI w))] [] (nx, sh, P, I) := by
    intro fuel
    induction fuel with
    | zero => intro w hw hl hm; exact absurd hm (Nat.not_lt_zero _)
    | succ fuel ih3 =>
      intro w hw hl hm
      refine x_iload_n dX3_highest_3 rfl ?_
      refine x_iconst (v := 1) dX3_highest_4 (by decide) ?_
      refine x_icmp_lt (tgt := 25) dX3_highest_5 rfl (fun c5 => ?_) (fun c5 => ?_)
      · have hw9 : w = 0 := by have h9 : w < 1 := (nI_ltI (b := 1) (by omega) (by decide)).mp c5; omega
        refine x_bipush (v := (-5)) dX3_highest_25 (by decide) ?_
        refine x_ireturn dX3_highest_27 rfl nb_int ?_
        exact ⟨by rw [← hl, hw9]; rfl, rfl⟩
      · have hw9 : 1 ≤ w := by have h9 : ¬ w < 1 := fun z => c5 ((nI_ltI (b := 1) (by omega) (by decide)).mpr z); omega
        obtain ⟨w, rfl⟩ : ∃ q, w = q + 1 := ⟨w - 1, by omega⟩
        refine x_aload_n dX3_highest_8 rfl ?_
        refine x_iload_n dX3_highest_9 rfl ?_
        refine x_iload_n dX3_highest_10 rfl ?_
        refine x_callV (k2 := 0) (n2 := 0) dX3_highest_11 LV_Guesses_122 (m_Guesses_having hx hc4 (w := w + 1) (by omega)) rfl rfl (fxo_100 hx) rfl (Nat.le_of_ble_eq_true rfl) (Nat.le_of_ble_eq_true rfl) (Nat.le_of_ble_eq_true rfl) (Nat.le_of_ble_eq_true rfl) ?_
        rintro _ _ ⟨rfl, rfl⟩
        rw [hT (w + 1) (by omega) (by omega)]
        refine x_if_le (tgt := 19) dX3_highest_14 rfl (fun c14 => ?_) (fun c14 => ?_)
        · refine x_iinc (v := (nI w)) dX3_highest_19 rfl (by rw [i_m1, nI_pred]) (Nat.le_of_ble_eq_true rfl) ?_
          try simp only [xst, xst2, xclr, xset, xwide]
          refine x_goto (tgt := 3) dX3_highest_22 rfl ?_
          exact ih3 w (by omega) (by rw [← hl]; show _ = if 0 < f (w + 1) then nI (w + 1) else _; rw [if_neg (by rw [(nI_le0 (hf (w + 1))).mp c14]; decide)]) (by omega)
        · refine x_iload_n dX3_highest_17 rfl ?_
          refine x_ireturn dX3_highest_18 rfl nb_int ?_
          exact ⟨by rw [← hl]; show _ = some (Value.int (if 0 < f (w + 1) then nI (w + 1) else _)); rw [if_pos (by rcases Nat.eq_zero_or_pos (f (w + 1)) with z | z; exact absurd (by rw [z]; decide) c14; exact z)], rfl⟩
  exact K3 _ 9 (by decide) rfl (Nat.lt_succ_self _)

set_option maxHeartbeats 4000000 in
set_option maxRecDepth 100000 in
theorem m_Guesses_weigh {g : xG} {nx : Nat} {sh : Nat → Nat × Nat} {P : Nat → Nat → Option Nat} {I : Nat → Nat → Int32} (hx : xFx sh P) {W : Nat → Nat → Int32} {v : Nat → Nat} (hw : ∀ c b, c < 4 → b < 10 → I 105 (10 * c + b) = W c b) (hat : ∀ c, c < 4 → I 104 c = nI (v c) ∧ v c < 10) : xMet g Y_Guesses_weigh 1 0 0 [.ref 100] (nx, sh, P, I) (fun r σ => ∃ F : Nat → Int32, r = none ∧ σ = (nx, sh, P, va_up I 106 F) ∧ ∀ c, c < 4 → F c = W c (v c)) := by
  refine xMet.of [some (.ref 100), none, none] (by decide +kernel) (Nat.le_of_ble_eq_true rfl) rfl ?_
  refine x_iconst (v := 0) dX3_weigh_0 (by decide) ?_
  refine x_istore_n dX3_weigh_1 (Nat.le_of_ble_eq_true rfl) ?_
  try simp only [xst, xst2, xclr, xset, xwide]
  refine y_st (I' := va_up I 106 (I 106)) va_up_id.symm ?_
  have K2 : ∀ (fuel : Nat) (i : Nat) (v2 : Option Value) (F : Nat → Int32) (hi : i ≤ 4) (hF : ∀ c, c < i → F c = W c (v c)), 4 - i < fuel → xX g Y_Guesses_weigh 1 0 0 (fun r σ => ∃ F : Nat → Int32, r = none ∧ σ = (nx, sh, P, va_up I 106 F) ∧ ∀ c, c < 4 → F c = W c (v c)) 2 [some (.ref 100), some (.int (nI i)), v2] [] (nx, sh, P, va_up I 106 F) := by
    intro fuel
    induction fuel with
    | zero => intro i v2 F hi hF hm; exact absurd hm (Nat.not_lt_zero _)
    | succ fuel ih2 =>
      intro i v2 F hi hF hm
      refine x_iload_n dX3_weigh_2 rfl ?_
      refine x_aload_n dX3_weigh_3 rfl ?_
      refine y_getr dX3_weigh_4 F_Guesses_24 (fxo_100 hx) rfl (fxp_100_3 hx) ?_
      refine y_alen dX3_weigh_7 (fxk_106 hx) (by decide) ?_
      refine x_icmp_ge (tgt := 60) dX3_weigh_8 rfl (fun c8 => ?_) (fun c8 => ?_)
      · have hie : i = 4 := cge_t (by decide) hi c8
        refine x_return dX3_weigh_60 rfl ?_
        subst hie
        exact ⟨F, rfl, rfl, hF⟩
      · have him : i < 4 := cge_f (by decide) hi c8
        refine x_iload_n dX3_weigh_11 rfl ?_
        refine x_bipush (v := 10) dX3_weigh_12 (by decide) ?_
        refine x_imul dX3_weigh_14 ?_
        rw [show nI i * (10 : Int32) = nI (i * 10) from pk_mul i 10]
        refine x_aload_n dX3_weigh_15 rfl ?_
        refine y_getr dX3_weigh_16 F_Guesses_14 (fxo_100 hx) rfl (fxp_100_1 hx) ?_
        refine x_iload_n dX3_weigh_19 rfl ?_
        refine x_callV (k2 := 0) (n2 := 0) dX3_weigh_20 LV_Guesses_75 (m_Rows_get (I := va_up I 106 F) (xrG hx) (p := i) him) rfl rfl (fxo_101 hx) rfl (Nat.le_of_ble_eq_true rfl) (Nat.le_of_ble_eq_true rfl) (Nat.le_of_ble_eq_true rfl) (Nat.le_of_ble_eq_true rfl) ?_
        rintro _ _ ⟨rfl, rfl⟩
        rw [va_up_no (by decide), (hat i him).1]
        refine x_iadd dX3_weigh_23 ?_
        have h10 := (hat i him).2
        rw [nI_add]
        refine x_istore_n dX3_weigh_24 (Nat.le_of_ble_eq_true rfl) ?_
        try simp only [xst, xst2, xclr, xset, xwide]
        refine x_aload_n dX3_weigh_25 rfl ?_
        refine y_getr dX3_weigh_26 F_Guesses_24 (fxo_100 hx) rfl (fxp_100_3 hx) ?_
        refine x_iload_n dX3_weigh_29 rfl ?_
        refine x_iload_n dX3_weigh_30 rfl ?_
        refine x_if_lt (tgt := 52) dX3_weigh_31 rfl (fun c31 => ?_) (fun c31 => ?_)
        · exact absurd c31 (nI_pos (by omega))
        · refine x_iload_n dX3_weigh_34 rfl ?_
          refine x_aload_n dX3_weigh_35 rfl ?_
          refine y_getr dX3_weigh_36 F_Guesses_20 (fxo_100 hx) rfl (fxp_100_2 hx) ?_
          refine y_alen dX3_weigh_39 (fxk_105 hx) (by decide) ?_
          refine x_icmp_ge (tgt := 52) dX3_weigh_40 rfl (fun c40 => ?_) (fun c40 => ?_)
          · exact absurd ((nI_leI (by decide) (by omega)).mp c40) (by omega)
          · refine x_aload_n dX3_weigh_43 rfl ?_
            refine y_getr dX3_weigh_44 F_Guesses_20 (fxo_100 hx) rfl (fxp_100_2 hx) ?_
            refine x_iload_n dX3_weigh_47 rfl ?_
            refine y_iaload dX3_weigh_48 (fxk_105 hx) (vi rfl (show i * 10 + v i < 40 by omega) (by decide)) (rI (j := 10 * i + v i) ((ci rfl (by omega)).trans (by omega)) ((congrFun (va_up_no (by decide)) _).trans (hw i (v i) him h10))) ?_
            refine x_goto (tgt := 53) dX3_weigh_49 rfl ?_
            refine y_iastore dX3_weigh_53 (fxk_106 hx) (vi rfl him (by decide)) (ci rfl (by omega)) ?_
            rw [xup_row]
            refine x_iinc (v := (nI (i + 1))) dX3_weigh_54 rfl (nI_1 _) (Nat.le_of_ble_eq_true rfl) ?_
            try simp only [xst, xst2, xclr, xset, xwide]
            refine x_goto (tgt := 2) dX3_weigh_57 rfl ?_
            exact ih2 (i + 1) _ _ (by omega) (fun c hc => by by_cases hci : c = i; rw [hci, upd_e]; rw [upd_n hci]; exact hF c (by omega)) (by omega)
  exact K2 _ 0 none (I 106) (by decide) (fun c h => absurd h (Nat.not_lt_zero c)) (Nat.lt_succ_self _)

set_option maxHeartbeats 4000000 in
set_option maxRecDepth 100000 in
theorem m_Guesses_surplus {g : xG} {nx : Nat} {sh : Nat → Nat × Nat} {P : Nat → Nat → Option Nat} {I : Nat → Nat → Int32} (hx : xFx sh P) {s : Nat → Int32} (hW : xWN nx sh P I s) (hR : RI s) {v : Nat → Nat} {kb : Nat} (hg : ∀ c, c < 4 → I 106 c = gwV s v c) (hkb3 : kb < cN s 3) : xMet g Y_Guesses_surplus 2 0 0 [.ref 100, .int (nI kb)] (nx, sh, P, I) (fun r σ => r = some (.int (sur s v kb)) ∧ σ = (nx, sh, P, I)) := by
  refine xMet.of [some (.ref 100), some (.int (nI kb))] (by decide +kernel) (Nat.le_of_ble_eq_true rfl) rfl ?_
  obtain ⟨⟨tTape, tCoins, tWares, tBuys, tSlates, tPlans, tBooked⟩, ⟨cTape, cCoins, cWares, cBuys, cSlates, cPlans, cBooked⟩, hW7, hW9, hL⟩ := id hW
  obtain ⟨⟨n0, b0, e0⟩, ⟨n1, b1, e1⟩, ⟨n2, b2, e2⟩, ⟨n3, b3, e3⟩, ⟨n4, b4, e4⟩, ⟨n5, b5, e5⟩, ⟨n6, b6, e6⟩, ⟨n7, b7, e7⟩, ⟨n9, b9, e9⟩⟩ := hR.k
  have k7 : cN s 7 = n7 := cN_of e7 (by omega)
  rw [k7] at tTape cTape
  have k0 : cN s 0 = n0 := cN_of e0 (by omega)
  rw [k0] at tCoins cCoins
  have k1 : cN s 1 = n1 := cN_of e1 (by omega)
  rw [k1] at tWares cWares
  have k3 : cN s 3 = n3 := cN_of e3 (by omega)
  rw [k3] at tBuys cBuys
  have k4 : cN s 4 = n4 := cN_of e4 (by omega)
  rw [k4] at tSlates cSlates
  have k5 : cN s 5 = n5 := cN_of e5 (by omega)
  rw [k5] at tPlans cPlans
  have k6 : cN s 6 = n6 := cN_of e6 (by omega)
  rw [k6] at tBooked cBooked
  have hkb : kb < n3 := by omega
  have hc04 := hR.c0.2
  refine x_aload_n dX3_surplus_0 rfl ?_
  refine y_getr dX3_surplus_1 F_Guesses_37 (fxo_100 hx) rfl (fxp_100_0 hx) ?_
  refine y_getr dX3_surplus_4 F_Guesses_78 (fxo_65 hx) rfl (fxp_65_3 hx) ?_
  refine x_iload_n dX3_surplus_7 rfl ?_
  refine x_iconst (v := 1) dX3_surplus_8 (by decide) ?_
  refine x_aload_n dX3_surplus_9 rfl ?_
  refine y_getr dX3_surplus_10 F_Guesses_24 (fxo_100 hx) rfl (fxp_100_3 hx) ?_
  refine x_callV (k2 := 0) (n2 := 0) dX3_surplus_13 LV_Guesses_81 (m_Table_sum tBuys (r := kb) (q := 1) (w := 106) (m := 4) hkb (by decide) (fxk_106 hx) (by decide)) rfl rfl (fxo_72 hx) rfl (Nat.le_of_ble_eq_true rfl) (Nat.le_of_ble_eq_true rfl) (Nat.le_of_ble_eq_true rfl) (Nat.le_of_ble_eq_true rfl) ?_
  rintro _ _ ⟨rfl, rfl⟩
  rw [xSm_b (s := s) (v := v) (k := kb) (fun j hj => by rw [show kb * 5 + 1 + j = kb * 5 + (1 + j) by omega]; exact (cBuys kb hkb).2 j hj) hg 4 (by decide), Nat.min_eq_right (by omega)]
  refine x_aload_n dX3_surplus_16 rfl ?_
  refine y_getr dX3_surplus_17 F_Guesses_37 (fxo_100 hx) rfl (fxp_100_0 hx) ?_
  refine y_getr dX3_surplus_20 F_Guesses_78 (fxo_65 hx) rfl (fxp_65_3 hx) ?_
  refine x_iload_n dX3_surplus_23 rfl ?_
  refine x_iconst (v := 0) dX3_surplus_24 (by decide) ?_
  refine x_callV (k2 := 0) (n2 := 0) dX3_surplus_25 LV_Guesses_57 (m_Table_get tBuys (x := nI kb) (z := nI 0)) rfl rfl (fxo_72 hx) rfl (Nat.le_of_ble_eq_true rfl) (Nat.le_of_ble_eq_true rfl) (Nat.le_of_ble_eq_true rfl) (Nat.le_of_ble_eq_true rfl) ?_
  rintro _ _ ⟨rfl, rfl⟩
  rw [xTg_in (r := kb) (k := 0) (by omega) (by omega) (by omega) (by omega), (cBuys kb hkb).1]
  refine x_isub dX3_surplus_28 ?_
  refine x_ireturn dX3_surplus_29 rfl nb_int ?_
  exact ⟨by unfold sur; rw [k0], rfl⟩

set_option maxHeartbeats 4000000 in
set_option maxRecDepth 100000 in
theorem m_Guesses_soFar {g : xG} {nx : Nat} {sh : Nat → Nat × Nat} {P : Nat → Nat → Option Nat} {I : Nat → Nat → Int32} (hx : xFx sh P) {s : Nat → Int32} (hW : xWN nx sh P I s) (hR : RI s) {v : Nat → Nat} {ch : Int32} (hg : ∀ c, c < 4 → I 106 c = gwV s v c) : xMet g Y_Guesses_soFar 3 0 0 [.ref 100, .int ch] (nx, sh, P, I) (fun r σ => r = some (.int (nI (sfN s v ch (cN s 3) 0))) ∧ σ = (nx, sh, P, I)) := by
  refine xMet.of [some (.ref 100), some (.int ch), none, none, none] (by decide +kernel) (Nat.le_of_ble_eq_true rfl) rfl ?_
  obtain ⟨⟨tTape, tCoins, tWares, tBuys, tSlates, tPlans, tBooked⟩, ⟨cTape, cCoins, cWares, cBuys, cSlates, cPlans, cBooked⟩, hW7, hW9, hL⟩ := id hW
  obtain ⟨⟨n0, b0, e0⟩, ⟨n1, b1, e1⟩, ⟨n2, b2, e2⟩, ⟨n3, b3, e3⟩, ⟨n4, b4, e4⟩, ⟨n5, b5, e5⟩, ⟨n6, b6, e6⟩, ⟨n7, b7, e7⟩, ⟨n9, b9, e9⟩⟩ := hR.k
  have k7 : cN s 7 = n7 := cN_of e7 (by omega)
  rw [k7] at tTape cTape
  have k0 : cN s 0 = n0 := cN_of e0 (by omega)
  rw [k0] at tCoins cCoins
  have k1 : cN s 1 = n1 := cN_of e1 (by omega)
  rw [k1] at tWares cWares
  have k3 : cN s 3 = n3 := cN_of e3 (by omega)
  rw [k3] at tBuys cBuys
  have k4 : cN s 4 = n4 := cN_of e4 (by omega)
  rw [k4] at tSlates cSlates
  have k5 : cN s 5 = n5 := cN_of e5 (by omega)
  rw [k5] at tPlans cPlans
  have k6 : cN s 6 = n6 := cN_of e6 (by omega)
  rw [k6] at tBooked cBooked
  refine x_aload_n dX3_soFar_0 rfl ?_
  refine y_getr dX3_soFar_1 F_Guesses_37 (fxo_100 hx) rfl (fxp_100_0 hx) ?_
  refine y_getr dX3_soFar_4 F_Guesses_78 (fxo_65 hx) rfl (fxp_65_3 hx) ?_
  refine x_callV (k2 := 0) (n2 := 0) dX3_soFar_7 LV_Guesses_85 (m_Table_rows tBuys) rfl rfl (fxo_72 hx) rfl (Nat.le_of_ble_eq_true rfl) (Nat.le_of_ble_eq_true rfl) (Nat.le_of_ble_eq_true rfl) (Nat.le_of_ble_eq_true rfl) ?_
  rintro _ _ ⟨rfl, rfl⟩
  refine x_istore_n dX3_soFar_10 (Nat.le_of_ble_eq_true rfl) ?_
  try simp only [xst, xst2, xclr, xset, xwide]
  refine x_iconst (v := 0) dX3_soFar_11 (by decide) ?_
  refine x_istore_n dX3_soFar_12 (Nat.le_of_ble_eq_true rfl) ?_
  try simp only [xst, xst2, xclr, xset, xwide]
  have K13 : ∀ (fuel : Nat) (i : Nat) (v4 : Option Value) (hi : i ≤ n3) (hl : sfN s v ch (n3 - i) i = sfN s v ch n3 0), n3 - i < fuel → xX g Y_Guesses_soFar 3 0 0 (fun r σ => r = some (.int (nI (sfN s v ch (cN s 3) 0))) ∧ σ = (nx, sh, P, I)) 13 [some (.ref 100), some (.int ch), some (.int (nI n3)), some (.int (nI i)), v4] [] (nx, sh, P, I) := by
    intro fuel
    induction fuel with
    | zero => intro i v4 hi hl hm; exact absurd hm (Nat.not_lt_zero _)
    | succ fuel ih13 =>
      intro i v4 hi hl hm
      refine x_iload_n dX3_soFar_13 rfl ?_
      refine x_iload_n dX3_soFar_14 rfl ?_
      refine x_icmp_ge (tgt := 44) dX3_soFar_15 rfl (fun c15 => ?_) (fun c15 => ?_)
      · have hie : i = n3 := cge_t (by omega) hi c15
        refine x_iload_n dX3_soFar_44 rfl ?_
        refine x_ireturn dX3_soFar_45 rfl nb_int ?_
        rw [hie, Nat.sub_self] at hl
        exact ⟨by rw [k3, ← hl]; rfl, rfl⟩
      · have him : i < n3 := cge_f (by omega) hi c15
        refine x_aload_n dX3_soFar_18 rfl ?_
        refine x_iload_n dX3_soFar_19 rfl ?_
        refine x_callV (k2 := 0) (n2 := 0) dX3_soFar_20 LV_Guesses_88 (m_Guesses_surplus hx hW hR hg (kb := i) (by omega)) rfl rfl (fxo_100 hx) rfl (Nat.le_of_ble_eq_true rfl) (Nat.le_of_ble_eq_true rfl) (Nat.le_of_ble_eq_true rfl) (Nat.le_of_ble_eq_true rfl) ?_
        rintro _ _ ⟨rfl, rfl⟩
        refine x_istore dX3_soFar_23 (Nat.le_of_ble_eq_true rfl) ?_
        try simp only [xst, xst2, xclr, xset, xwide]
        refine x_iload dX3_soFar_25 rfl ?_
        refine x_if_lt (tgt := 36) dX3_soFar_27 rfl (fun c27 => ?_) (fun c27 => ?_)
        · skip
          refine x_iload_n dX3_soFar_36 rfl ?_
          refine x_ireturn dX3_soFar_37 rfl nb_int ?_
          exact ⟨by rw [k3, ← hl, show n3 - i = (n3 - (i + 1)) + 1 by omega, sfN_s, if_pos (Or.inl c27)], rfl⟩
        · refine x_iload dX3_soFar_30 rfl ?_
          refine x_iload_n dX3_soFar_32 rfl ?_
          refine x_icmp_le (tgt := 38) dX3_soFar_33 rfl (fun c33 => ?_) (fun c33 => ?_)
          · refine x_iinc (v := (nI (i + 1))) dX3_soFar_38 rfl (nI_1 _) (Nat.le_of_ble_eq_true rfl) ?_
            try simp only [xst, xst2, xclr, xset, xwide]
            refine x_goto (tgt := 13) dX3_soFar_41 rfl ?_
            exact ih13 (i + 1) _ (by omega) (by rw [← hl, show n3 - i = (n3 - (i + 1)) + 1 by omega, sfN_s, if_neg (fun y => y.elim c27 (Int32.not_lt.mpr c33))]) (by omega)
          · skip
            refine x_iload_n dX3_soFar_36 rfl ?_
            refine x_ireturn dX3_soFar_37 rfl nb_int ?_
            exact ⟨by rw [k3, ← hl, show n3 - i = (n3 - (i + 1)) + 1 by omega, sfN_s, if_pos (Or.inr (Int32.not_le.mp c33))], rfl⟩
  exact K13 _ 0 none (Nat.zero_le _) rfl (Nat.lt_succ_self _)

set_option maxHeartbeats 4000000 in
set_option maxRecDepth 100000 in
theorem m_Guesses_cheatNeeded {g : xG} {nx : Nat} {sh : Nat → Nat × Nat} {P : Nat → Nat → Option Nat} {I : Nat → Nat → Int32} (hx : xFx sh P) {s : Nat → Int32} (hW : xWN nx sh P I s) (hR : RI s) {v : Nat → Nat} (hg : ∀ c, c < 4 → I 106 c = gwV s v c) : xMet g Y_Guesses_cheatNeeded 3 0 0 [.ref 100] (nx, sh, P, I) (fun r σ => r = some (.int (cnN s v (cN s 3) 0 0)) ∧ σ = (nx, sh, P, I)) := by
  refine xMet.of [some (.ref 100), none, none, none] (by decide +kernel) (Nat.le_of_ble_eq_true rfl) rfl ?_
  obtain ⟨⟨tTape, tCoins, tWares, tBuys, tSlates, tPlans, tBooked⟩, ⟨cTape, cCoins, cWares, cBuys, cSlates, cPlans, cBooked⟩, hW7, hW9, hL⟩ := id hW
  obtain ⟨⟨n0, b0, e0⟩, ⟨n1, b1, e1⟩, ⟨n2, b2, e2⟩, ⟨n3, b3, e3⟩, ⟨n4, b4, e4⟩, ⟨n5, b5, e5⟩, ⟨n6, b6, e6⟩, ⟨n7, b7, e7⟩, ⟨n9, b9, e9⟩⟩ := hR.k
  have k7 : cN s 7 = n7 := cN_of e7 (by omega)
  rw [k7] at tTape cTape
  have k0 : cN s 0 = n0 := cN_of e0 (by omega)
  rw [k0] at tCoins cCoins
  have k1 : cN s 1 = n1 := cN_of e1 (by omega)
  rw [k1] at tWares cWares
  have k3 : cN s 3 = n3 := cN_of e3 (by omega)
  rw [k3] at tBuys cBuys
  have k4 : cN s 4 = n4 := cN_of e4 (by omega)
  rw [k4] at tSlates cSlates
  have k5 : cN s 5 = n5 := cN_of e5 (by omega)
  rw [k5] at tPlans cPlans
  have k6 : cN s 6 = n6 := cN_of e6 (by omega)
  rw [k6] at tBooked cBooked
  refine x_iconst (v := 0) dX3_cheatNeeded_0 (by decide) ?_
  refine x_istore_n dX3_cheatNeeded_1 (Nat.le_of_ble_eq_true rfl) ?_
  try simp only [xst, xst2, xclr, xset, xwide]
  refine x_iconst (v := 0) dX3_cheatNeeded_2 (by decide) ?_
  refine x_istore_n dX3_cheatNeeded_3 (Nat.le_of_ble_eq_true rfl) ?_
  try simp only [xst, xst2, xclr, xset, xwide]
  have K4 : ∀ (fuel : Nat) (i : Nat) (nd : Int32) (v3 : Option Value) (hi : i ≤ n3) (hl : cnN s v (n3 - i) i nd = cnN s v n3 0 0), n3 - i < fuel → xX g Y_Guesses_cheatNeeded 3 0 0 (fun r σ => r = some (.int (cnN s v (cN s 3) 0 0)) ∧ σ = (nx, sh, P, I)) 4 [some (.ref 100), some (.int nd), some (.int (nI i)), v3] [] (nx, sh, P, I) := by
    intro fuel
    induction fuel with
    | zero => intro i nd v3 hi hl hm; exact absurd hm (Nat.not_lt_zero _)
    | succ fuel ih4 =>
      intro i nd v3 hi hl hm
      refine x_iload_n dX3_cheatNeeded_4 rfl ?_
      refine x_aload_n dX3_cheatNeeded_5 rfl ?_
      refine y_getr dX3_cheatNeeded_6 F_Guesses_37 (fxo_100 hx) rfl (fxp_100_0 hx) ?_
      refine y_getr dX3_cheatNeeded_9 F_Guesses_78 (fxo_65 hx) rfl (fxp_65_3 hx) ?_
      refine x_callV (k2 := 0) (n2 := 0) dX3_cheatNeeded_12 LV_Guesses_85 (m_Table_rows tBuys) rfl rfl (fxo_72 hx) rfl (Nat.le_of_ble_eq_true rfl) (Nat.le_of_ble_eq_true rfl) (Nat.le_of_ble_eq_true rfl) (Nat.le_of_ble_eq_true rfl) ?_
      rintro _ _ ⟨rfl, rfl⟩
      refine x_icmp_ge (tgt := 43) dX3_cheatNeeded_15 rfl (fun c15 => ?_) (fun c15 => ?_)
      · have hie : i = n3 := cge_t (by omega) hi c15
        refine x_iload_n dX3_cheatNeeded_43 rfl ?_
        refine x_ireturn dX3_cheatNeeded_44 rfl nb_int ?_
        rw [hie, Nat.sub_self] at hl
        exact ⟨by rw [k3, ← hl]; rfl, rfl⟩
      · have him : i < n3 := cge_f (by omega) hi c15
        refine x_aload_n dX3_cheatNeeded_18 rfl ?_
        refine x_iload_n dX3_cheatNeeded_19 rfl ?_
        refine x_callV (k2 := 0) (n2 := 0) dX3_cheatNeeded_20 LV_Guesses_88 (m_Guesses_surplus hx hW hR hg (kb := i) (by omega)) rfl rfl (fxo_100 hx) rfl (Nat.le_of_ble_eq_true rfl) (Nat.le_of_ble_eq_true rfl) (Nat.le_of_ble_eq_true rfl) (Nat.le_of_ble_eq_true rfl) ?_
        rintro _ _ ⟨rfl, rfl⟩
        refine x_istore_n dX3_cheatNeeded_23 (Nat.le_of_ble_eq_true rfl) ?_
        try simp only [xst, xst2, xclr, xset, xwide]
        refine x_iload_n dX3_cheatNeeded_24 rfl ?_
        refine x_if_ge (tgt := 31) dX3_cheatNeeded_25 rfl (fun c25 => ?_) (fun c25 => ?_)
        · refine x_iload_n dX3_cheatNeeded_31 rfl ?_
          refine x_iload_n dX3_cheatNeeded_32 rfl ?_
          refine x_callS (k2 := 0) (n2 := 0) dX3_cheatNeeded_33 LS_Guesses_130 m_max rfl rfl (Nat.le_of_ble_eq_true rfl) (Nat.le_of_ble_eq_true rfl) (Nat.le_of_ble_eq_true rfl) (Nat.le_of_ble_eq_true rfl) ?_
          rintro _ _ ⟨rfl, rfl⟩
          refine x_istore_n dX3_cheatNeeded_36 (Nat.le_of_ble_eq_true rfl) ?_
          try simp only [xst, xst2, xclr, xset, xwide]
          refine x_iinc (v := (nI (i + 1))) dX3_cheatNeeded_37 rfl (nI_1 _) (Nat.le_of_ble_eq_true rfl) ?_
          try simp only [xst, xst2, xclr, xset, xwide]
          refine x_goto (tgt := 4) dX3_cheatNeeded_40 rfl ?_
          exact ih4 (i + 1) _ _ (by omega) (by rw [← hl, show n3 - i = (n3 - (i + 1)) + 1 by omega, cnN_s, if_neg (Int32.not_lt.mpr c25)]) (by omega)
        · refine x_bipush (v := 61) dX3_cheatNeeded_28 (by decide) ?_
          refine x_ireturn dX3_cheatNeeded_30 rfl nb_int ?_
          exact ⟨by rw [k3, ← hl, show n3 - i = (n3 - (i + 1)) + 1 by omega, cnN_s, if_pos (Int32.not_le.mp c25)], rfl⟩
  exact K4 _ 0 0 none (Nat.zero_le _) rfl (Nat.lt_succ_self _)
