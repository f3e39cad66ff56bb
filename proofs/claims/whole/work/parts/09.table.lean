/-! ints: bounds and places -/
theorem vin {i : Int32} {len : Nat} (hl : len < 2 ^ 31) (h0 : ¬ i < 0) (h1 : ¬ nI len ≤ i) : vp_in i len := by
  refine vp_in_iff.mpr ⟨?_, ?_⟩
  · have := Int32.le_iff_toInt_le.mp (Int32.not_lt.mp h0)
    simpa using this
  · have h2 := Int32.lt_iff_toInt_lt.mp (Int32.not_le.mp h1)
    rw [nI_toInt hl] at h2
    exact h2
theorem i_nn {i : Int32} (h0 : ¬ i < 0) : i = nI i.toNatClampNeg := by
  obtain ⟨j, hj, e⟩ := nI_of h0
  rw [e, nI_clamp hj]
theorem i_cl {i : Int32} : i.toNatClampNeg < 2 ^ 31 := Int32.toNatClampNeg_lt i
theorem i_lt {i : Int32} {n : Nat} (hn : n < 2 ^ 31) (h0 : ¬ i < 0) (h : i < nI n) : i.toNatClampNeg < n := by
  rw [i_nn h0] at h
  exact (nI_ltI i_cl hn).mp h
theorem i_2 {i : Int32} {n : Nat} (hn : n < 2 ^ 31) (h : 0 ≤ i ∧ i < nI n) : ∃ j : Nat, j < n ∧ i = nI j := by
  have h0 : ¬ i < 0 := Int32.not_lt.mpr h.1
  exact ⟨i.toNatClampNeg, i_lt hn h0 h.2, i_nn h0⟩
theorem nI_in2 {j n : Nat} (hj : j < n) (hn : n < 2 ^ 31) : 0 ≤ nI j ∧ nI j < nI n := ⟨Int32.not_lt.mp (nI_pos (by omega)), (nI_ltI (by omega) hn).mpr hj⟩
theorem b_f {c : Prop} [Decidable c] (h : (if c then (1 : Int32) else 0) = 0) : ¬ c := fun z => by rw [if_pos z] at h; exact absurd h (by decide)
theorem b_t {c : Prop} [Decidable c] (h : ¬ (if c then (1 : Int32) else 0) = 0) : c := by
  by_cases z : c
  · exact z
  · rw [if_neg z] at h; exact absurd rfl h
theorem y_st {g : xG} {y : xY} {d k n : Nat} {Q : Option Value → xS → Prop} {pc : Nat} {ls : List (Option Value)} {st : List Value} {nx : Nat} {sh : Nat → Nat × Nat} {P : Nat → Nat → Option Nat} {I I' : Nat → Nat → Int32} (h : I = I') (kk : xX g y d k n Q pc ls st (nx, sh, P, I')) : xX g y d k n Q pc ls st (nx, sh, P, I) := h ▸ kk
/-! Table -/
/-- a Table at t, its cells at c: W wide, room for L rows, n rows -/
def xTb (sh : Nat → Nat × Nat) (P : Nat → Nat → Option Nat) (I : Nat → Nat → Int32) (t c W L n : Nat) : Prop := (sh t).1 = 8 ∧ P t 2 = some c ∧ sh c = (12, W * L) ∧ I t 0 = nI W ∧ I t 1 = nI L ∧ I t 3 = nI n ∧ n ≤ L ∧ 1 ≤ W ∧ 1 ≤ L ∧ W * L ≤ 1000 ∧ t ≠ c
theorem xTb.lt {sh : Nat → Nat × Nat} {P : Nat → Nat → Option Nat} {I : Nat → Nat → Int32} {t c W L n : Nat} (h : xTb sh P I t c W L n) : n ≤ 1000 ∧ W ≤ 1000 ∧ L ≤ 1000 := by
  obtain ⟨-, -, -, -, -, -, h1, h2, h3, h4, -⟩ := h
  have : L ≤ W * L := Nat.le_mul_of_pos_left L h2
  have : W ≤ W * L := Nat.le_mul_of_pos_right W h3
  omega
theorem xTb.other {sh : Nat → Nat × Nat} {P : Nat → Nat → Option Nat} {I I' : Nat → Nat → Int32} {t c W L n : Nat} (h : xTb sh P I t c W L n) (he : I' t = I t) : xTb sh P I' t c W L n := by
  obtain ⟨h1, h2, h3, h4, h5, h6, h7⟩ := h
  exact ⟨h1, h2, h3, by rw [he]; exact h4, by rw [he]; exact h5, by rw [he]; exact h6, h7⟩
/-- what get answers -/
def xTg (I : Nat → Nat → Int32) (c W n : Nat) (r k : Int32) : Int32 := if 0 ≤ r ∧ r < nI n ∧ 0 ≤ k ∧ k < nI W then I c (r.toNatClampNeg * W + k.toNatClampNeg) else 0
theorem xTg_in {I : Nat → Nat → Int32} {c W n r k : Nat} (hr : r < n) (hk : k < W) (hn : n < 2 ^ 31) (hW : W < 2 ^ 31) : xTg I c W n (nI r) (nI k) = I c (r * W + k) := by
  unfold xTg
  rw [if_pos ⟨(nI_in2 hr hn).1, (nI_in2 hr hn).2, (nI_in2 hk hW).1, (nI_in2 hk hW).2⟩, nI_clamp (by omega), nI_clamp (by omega)]
theorem xTg_out {I : Nat → Nat → Int32} {c W n r k : Nat} (hr : n ≤ r) (hr2 : r < 2 ^ 31) : xTg I c W n (nI r) (nI k) = 0 := by
  unfold xTg
  rw [if_neg]
  intro h
  have := (nI_ltI hr2 (by omega)).mp h.2.1
  omega
theorem tb_ix {W L n r k : Nat} (hr : r < n) (hn : n ≤ L) (hk : k < W) : r * W + k < W * L := by
  have h1 : (r + 1) * W ≤ L * W := Nat.mul_le_mul_right W (by omega)
  rw [Nat.add_mul, Nat.one_mul] at h1
  rw [Nat.mul_comm W L]
  omega

set_option maxHeartbeats 4000000 in
set_option maxRecDepth 100000 in
theorem m_max {g : xG} {nx : Nat} {sh : Nat → Nat × Nat} {P : Nat → Nat → Option Nat} {I : Nat → Nat → Int32} {x z : Int32} : xMet g Y_J_9_max_7cf53 0 0 0 [.int x, .int z] (nx, sh, P, I) (fun r σ => r = some (.int (if x ≤ z then z else x)) ∧ σ = (nx, sh, P, I)) := by
  refine xMet.of [some (.int x), some (.int z)] (by decide +kernel) (Nat.le_of_ble_eq_true rfl) rfl ?_
  refine x_iload_n dJ9_max_7cf53_0 rfl ?_
  refine x_iload_n dJ9_max_7cf53_1 rfl ?_
  refine x_icmp_lt (tgt := 9) dJ9_max_7cf53_2 rfl (fun c2 => ?_) (fun c2 => ?_)
  · refine x_iload_n dJ9_max_7cf53_9 rfl ?_
    refine x_ireturn dJ9_max_7cf53_10 rfl nb_int ?_
    exact ⟨by grind, rfl⟩
  · refine x_iload_n dJ9_max_7cf53_5 rfl ?_
    refine x_goto (tgt := 10) dJ9_max_7cf53_6 rfl ?_
    refine x_ireturn dJ9_max_7cf53_10 rfl nb_int ?_
    exact ⟨by grind, rfl⟩

set_option maxHeartbeats 4000000 in
set_option maxRecDepth 100000 in
theorem m_min {g : xG} {nx : Nat} {sh : Nat → Nat × Nat} {P : Nat → Nat → Option Nat} {I : Nat → Nat → Int32} {x z : Int32} : xMet g Y_J_9_min_7cf53 0 0 0 [.int x, .int z] (nx, sh, P, I) (fun r σ => r = some (.int (if x ≤ z then x else z)) ∧ σ = (nx, sh, P, I)) := by
  refine xMet.of [some (.int x), some (.int z)] (by decide +kernel) (Nat.le_of_ble_eq_true rfl) rfl ?_
  refine x_iload_n dJ9_min_7cf53_0 rfl ?_
  refine x_iload_n dJ9_min_7cf53_1 rfl ?_
  refine x_icmp_gt (tgt := 9) dJ9_min_7cf53_2 rfl (fun c2 => ?_) (fun c2 => ?_)
  · refine x_iload_n dJ9_min_7cf53_9 rfl ?_
    refine x_ireturn dJ9_min_7cf53_10 rfl nb_int ?_
    exact ⟨by grind, rfl⟩
  · refine x_iload_n dJ9_min_7cf53_5 rfl ?_
    refine x_goto (tgt := 10) dJ9_min_7cf53_6 rfl ?_
    refine x_ireturn dJ9_min_7cf53_10 rfl nb_int ?_
    exact ⟨by grind, rfl⟩

set_option maxHeartbeats 4000000 in
set_option maxRecDepth 100000 in
theorem m_abs {g : xG} {nx : Nat} {sh : Nat → Nat × Nat} {P : Nat → Nat → Option Nat} {I : Nat → Nat → Int32} {x : Int32} : xMet g Y_J_9_abs_0f7a4 0 0 0 [.int x] (nx, sh, P, I) (fun r σ => r = some (.int (if x < 0 then -x else x)) ∧ σ = (nx, sh, P, I)) := by
  refine xMet.of [some (.int x)] (by decide +kernel) (Nat.le_of_ble_eq_true rfl) rfl ?_
  refine x_iload_n dJ9_abs_0f7a4_0 rfl ?_
  refine x_if_ge (tgt := 9) dJ9_abs_0f7a4_1 rfl (fun c1 => ?_) (fun c1 => ?_)
  · refine x_iload_n dJ9_abs_0f7a4_9 rfl ?_
    refine x_ireturn dJ9_abs_0f7a4_10 rfl nb_int ?_
    exact ⟨by grind, rfl⟩
  · refine x_iload_n dJ9_abs_0f7a4_4 rfl ?_
    refine x_ineg dJ9_abs_0f7a4_5 ?_
    refine x_goto (tgt := 10) dJ9_abs_0f7a4_6 rfl ?_
    refine x_ireturn dJ9_abs_0f7a4_10 rfl nb_int ?_
    exact ⟨by grind, rfl⟩

set_option maxHeartbeats 4000000 in
set_option maxRecDepth 100000 in
theorem m_compare {g : xG} {nx : Nat} {sh : Nat → Nat × Nat} {P : Nat → Nat → Option Nat} {I : Nat → Nat → Int32} {x z : Int32} : xMet g Y_J_6_compare_7cf53 0 0 0 [.int x, .int z] (nx, sh, P, I) (fun r σ => r = some (.int (if x < z then -1 else if x = z then 0 else 1)) ∧ σ = (nx, sh, P, I)) := by
  refine xMet.of [some (.int x), some (.int z)] (by decide +kernel) (Nat.le_of_ble_eq_true rfl) rfl ?_
  refine x_iload_n dJ6_compare_7cf53_0 rfl ?_
  refine x_iload_n dJ6_compare_7cf53_1 rfl ?_
  refine x_icmp_ge (tgt := 9) dJ6_compare_7cf53_2 rfl (fun c2 => ?_) (fun c2 => ?_)
  · refine x_iload_n dJ6_compare_7cf53_9 rfl ?_
    refine x_iload_n dJ6_compare_7cf53_10 rfl ?_
    refine x_icmp_ne (tgt := 18) dJ6_compare_7cf53_11 rfl (fun c11 => ?_) (fun c11 => ?_)
    · refine x_iconst (v := 1) dJ6_compare_7cf53_18 (by decide) ?_
      refine x_ireturn dJ6_compare_7cf53_19 rfl nb_int ?_
      exact ⟨by grind, rfl⟩
    · refine x_iconst (v := 0) dJ6_compare_7cf53_14 (by decide) ?_
      refine x_goto (tgt := 19) dJ6_compare_7cf53_15 rfl ?_
      refine x_ireturn dJ6_compare_7cf53_19 rfl nb_int ?_
      exact ⟨by grind, rfl⟩
  · refine x_iconst (v := (-1)) dJ6_compare_7cf53_5 (by decide) ?_
    refine x_goto (tgt := 19) dJ6_compare_7cf53_6 rfl ?_
    refine x_ireturn dJ6_compare_7cf53_19 rfl nb_int ?_
    exact ⟨by grind, rfl⟩

set_option maxHeartbeats 4000000 in
set_option maxRecDepth 100000 in
theorem m_Table_rows {g : xG} {nx : Nat} {sh : Nat → Nat × Nat} {P : Nat → Nat → Option Nat} {I : Nat → Nat → Int32} {t c W L n : Nat} (hT : xTb sh P I t c W L n)  : xMet g Y_Table_rows 0 0 0 [.ref t] (nx, sh, P, I) (fun r σ => r = some (.int (nI n)) ∧ σ = (nx, sh, P, I)) := by
  refine xMet.of [some (.ref t)] (by decide +kernel) (Nat.le_of_ble_eq_true rfl) rfl ?_
  obtain ⟨hT1, hT2, hT3, hT4, hT5, hT6, hT7, hT8, hT9, hT10, hT11⟩ := id hT
  obtain ⟨hTn, hTW, hTL⟩ := hT.lt
  refine x_aload_n dX8_rows_0 rfl ?_
  refine y_geti dX8_rows_1 F_Table_7 hT1 rfl hT6 ?_
  refine x_ireturn dX8_rows_4 rfl nb_int ?_
  exact ⟨rfl, rfl⟩

set_option maxHeartbeats 4000000 in
set_option maxRecDepth 100000 in
theorem m_Table_has {g : xG} {nx : Nat} {sh : Nat → Nat × Nat} {P : Nat → Nat → Option Nat} {I : Nat → Nat → Int32} {t c W L n : Nat} (hT : xTb sh P I t c W L n) {x : Int32} : xMet g Y_Table_has 0 0 0 [.ref t, .int x] (nx, sh, P, I) (fun r σ => r = some (.int (if 0 ≤ x ∧ x < nI n then 1 else 0)) ∧ σ = (nx, sh, P, I)) := by
  refine xMet.of [some (.ref t), some (.int x)] (by decide +kernel) (Nat.le_of_ble_eq_true rfl) rfl ?_
  obtain ⟨hT1, hT2, hT3, hT4, hT5, hT6, hT7, hT8, hT9, hT10, hT11⟩ := id hT
  obtain ⟨hTn, hTW, hTL⟩ := hT.lt
  refine x_iload_n dX8_has_0 rfl ?_
  refine x_if_lt (tgt := 16) dX8_has_1 rfl (fun c1 => ?_) (fun c1 => ?_)
  · refine x_iconst (v := 0) dX8_has_16 (by decide) ?_
    refine x_ireturn dX8_has_17 rfl rfl ?_
    exact ⟨by grind, rfl⟩
  · refine x_iload_n dX8_has_4 rfl ?_
    refine x_aload_n dX8_has_5 rfl ?_
    refine y_geti dX8_has_6 F_Table_7 hT1 rfl hT6 ?_
    refine x_icmp_ge (tgt := 16) dX8_has_9 rfl (fun c9 => ?_) (fun c9 => ?_)
    · refine x_iconst (v := 0) dX8_has_16 (by decide) ?_
      refine x_ireturn dX8_has_17 rfl rfl ?_
      exact ⟨by grind, rfl⟩
    · refine x_iconst (v := 1) dX8_has_12 (by decide) ?_
      refine x_goto (tgt := 17) dX8_has_13 rfl ?_
      refine x_ireturn dX8_has_17 rfl rfl ?_
      exact ⟨by grind, rfl⟩

set_option maxHeartbeats 4000000 in
set_option maxRecDepth 100000 in
theorem m_Table_isFull {g : xG} {nx : Nat} {sh : Nat → Nat × Nat} {P : Nat → Nat → Option Nat} {I : Nat → Nat → Int32} {t c W L n : Nat} (hT : xTb sh P I t c W L n)  : xMet g Y_Table_isFull 0 0 0 [.ref t] (nx, sh, P, I) (fun r σ => r = some (.int (if L ≤ n then 1 else 0)) ∧ σ = (nx, sh, P, I)) := by
  refine xMet.of [some (.ref t)] (by decide +kernel) (Nat.le_of_ble_eq_true rfl) rfl ?_
  obtain ⟨hT1, hT2, hT3, hT4, hT5, hT6, hT7, hT8, hT9, hT10, hT11⟩ := id hT
  obtain ⟨hTn, hTW, hTL⟩ := hT.lt
  refine x_aload_n dX8_isFull_0 rfl ?_
  refine y_geti dX8_isFull_1 F_Table_7 hT1 rfl hT6 ?_
  refine x_aload_n dX8_isFull_4 rfl ?_
  refine y_geti dX8_isFull_5 F_Table_22 hT1 rfl hT5 ?_
  refine x_icmp_lt (tgt := 15) dX8_isFull_8 rfl (fun c8 => ?_) (fun c8 => ?_)
  · refine x_iconst (v := 0) dX8_isFull_15 (by decide) ?_
    refine x_ireturn dX8_isFull_16 rfl rfl ?_
    have h9 := nI_leI (a := L) (b := n) (by omega) (by omega)
    exact ⟨by grind, rfl⟩
  · refine x_iconst (v := 1) dX8_isFull_11 (by decide) ?_
    refine x_goto (tgt := 16) dX8_isFull_12 rfl ?_
    refine x_ireturn dX8_isFull_16 rfl rfl ?_
    have h9 := nI_leI (a := L) (b := n) (by omega) (by omega)
    exact ⟨by grind, rfl⟩

set_option maxHeartbeats 4000000 in
set_option maxRecDepth 100000 in
theorem m_Table_isInside {g : xG} {nx : Nat} {sh : Nat → Nat × Nat} {P : Nat → Nat → Option Nat} {I : Nat → Nat → Int32} {t c W L n : Nat} (hT : xTb sh P I t c W L n) {x z : Int32} : xMet g Y_Table_isInside 0 0 0 [.ref t, .int x, .int z] (nx, sh, P, I) (fun r σ => r = some (.int (if 0 ≤ x ∧ x < nI n ∧ 0 ≤ z ∧ z < nI W then 1 else 0)) ∧ σ = (nx, sh, P, I)) := by
  refine xMet.of [some (.ref t), some (.int x), some (.int z)] (by decide +kernel) (Nat.le_of_ble_eq_true rfl) rfl ?_
  obtain ⟨hT1, hT2, hT3, hT4, hT5, hT6, hT7, hT8, hT9, hT10, hT11⟩ := id hT
  obtain ⟨hTn, hTW, hTL⟩ := hT.lt
  refine x_iload_n dX8_isInside_0 rfl ?_
  refine x_if_lt (tgt := 28) dX8_isInside_1 rfl (fun c1 => ?_) (fun c1 => ?_)
  · refine x_iconst (v := 0) dX8_isInside_28 (by decide) ?_
    refine x_ireturn dX8_isInside_29 rfl rfl ?_
    exact ⟨by grind, rfl⟩
  · refine x_iload_n dX8_isInside_4 rfl ?_
    refine x_aload_n dX8_isInside_5 rfl ?_
    refine y_geti dX8_isInside_6 F_Table_7 hT1 rfl hT6 ?_
    refine x_icmp_ge (tgt := 28) dX8_isInside_9 rfl (fun c9 => ?_) (fun c9 => ?_)
    · refine x_iconst (v := 0) dX8_isInside_28 (by decide) ?_
      refine x_ireturn dX8_isInside_29 rfl rfl ?_
      exact ⟨by grind, rfl⟩
    · refine x_iload_n dX8_isInside_12 rfl ?_
      refine x_if_lt (tgt := 28) dX8_isInside_13 rfl (fun c13 => ?_) (fun c13 => ?_)
      · refine x_iconst (v := 0) dX8_isInside_28 (by decide) ?_
        refine x_ireturn dX8_isInside_29 rfl rfl ?_
        exact ⟨by grind, rfl⟩
      · refine x_iload_n dX8_isInside_16 rfl ?_
        refine x_aload_n dX8_isInside_17 rfl ?_
        refine y_geti dX8_isInside_18 F_Table_19 hT1 rfl hT4 ?_
        refine x_icmp_ge (tgt := 28) dX8_isInside_21 rfl (fun c21 => ?_) (fun c21 => ?_)
        · refine x_iconst (v := 0) dX8_isInside_28 (by decide) ?_
          refine x_ireturn dX8_isInside_29 rfl rfl ?_
          exact ⟨by grind, rfl⟩
        · refine x_iconst (v := 1) dX8_isInside_24 (by decide) ?_
          refine x_goto (tgt := 29) dX8_isInside_25 rfl ?_
          refine x_ireturn dX8_isInside_29 rfl rfl ?_
          exact ⟨by grind, rfl⟩

set_option maxHeartbeats 4000000 in
set_option maxRecDepth 100000 in
theorem m_Table_get {g : xG} {nx : Nat} {sh : Nat → Nat × Nat} {P : Nat → Nat → Option Nat} {I : Nat → Nat → Int32} {t c W L n : Nat} (hT : xTb sh P I t c W L n) {x z : Int32} : xMet g Y_Table_get 1 0 0 [.ref t, .int x, .int z] (nx, sh, P, I) (fun r σ => r = some (.int (xTg I c W n x z)) ∧ σ = (nx, sh, P, I)) := by
  refine xMet.of [some (.ref t), some (.int x), some (.int z), none] (by decide +kernel) (Nat.le_of_ble_eq_true rfl) rfl ?_
  obtain ⟨hT1, hT2, hT3, hT4, hT5, hT6, hT7, hT8, hT9, hT10, hT11⟩ := id hT
  obtain ⟨hTn, hTW, hTL⟩ := hT.lt
  refine x_iload_n dX8_get_0 rfl ?_
  refine x_aload_n dX8_get_1 rfl ?_
  refine y_geti dX8_get_2 F_Table_19 hT1 rfl hT4 ?_
  refine x_imul dX8_get_5 ?_
  refine x_iload_n dX8_get_6 rfl ?_
  refine x_iadd dX8_get_7 ?_
  refine x_istore_n dX8_get_8 (Nat.le_of_ble_eq_true rfl) ?_
  try simp only [xst, xst2, xclr, xset, xwide]
  refine x_aload_n dX8_get_9 rfl ?_
  refine x_iload_n dX8_get_10 rfl ?_
  refine x_iload_n dX8_get_11 rfl ?_
  refine x_callV (k2 := 0) (n2 := 0) dX8_get_12 LV_Table_33 (m_Table_isInside hT) rfl rfl hT1 rfl (Nat.le_of_ble_eq_true rfl) (Nat.le_of_ble_eq_true rfl) (Nat.le_of_ble_eq_true rfl) (Nat.le_of_ble_eq_true rfl) ?_
  rintro _ _ ⟨rfl, rfl⟩
  refine x_if_eq (tgt := 40) dX8_get_15 rfl (fun c15 => ?_) (fun c15 => ?_)
  · have hx := b_f c15
    refine x_iconst (v := 0) dX8_get_40 (by decide) ?_
    refine x_ireturn dX8_get_41 rfl nb_int ?_
    first | exact ⟨by rw [xTg_in hr hq (by omega) (by omega)], rfl⟩ | exact ⟨by unfold xTg; rw [if_neg hx], rfl⟩
  · obtain ⟨hx1, hx2, hx3, hx4⟩ := b_t c15
    obtain ⟨r, hr, rfl⟩ := i_2 (by omega) ⟨hx1, hx2⟩
    obtain ⟨q, hq, rfl⟩ := i_2 (by omega) ⟨hx3, hx4⟩
    simp only [pk_mul, nI_add]
    have hix := tb_ix hr hT7 hq
    refine x_iload_n dX8_get_18 rfl ?_
    refine x_if_lt (tgt := 40) dX8_get_19 rfl (fun c19 => ?_) (fun c19 => ?_)
    · exact absurd c19 (nI_pos (by omega))
    · refine x_iload_n dX8_get_22 rfl ?_
      refine x_aload_n dX8_get_23 rfl ?_
      refine y_getr dX8_get_24 F_Table_25 hT1 rfl hT2 ?_
      refine y_alen dX8_get_27 hT3 (by decide) ?_
      refine x_icmp_ge (tgt := 40) dX8_get_28 rfl (fun c28 => ?_) (fun c28 => ?_)
      · exact absurd c28 (nI_ge (by omega) (by omega))
      · refine x_aload_n dX8_get_31 rfl ?_
        refine y_getr dX8_get_32 F_Table_25 hT1 rfl hT2 ?_
        refine x_iload_n dX8_get_35 rfl ?_
        refine y_iaload dX8_get_36 hT3 (vp_in_nI hix (by omega)) (congrArg (I c) (nI_clamp (by omega))) ?_
        refine x_goto (tgt := 41) dX8_get_37 rfl ?_
        refine x_ireturn dX8_get_41 rfl nb_int ?_
        first | exact ⟨by rw [xTg_in hr hq (by omega) (by omega)], rfl⟩ | exact ⟨by unfold xTg; rw [if_neg hx], rfl⟩

set_option maxHeartbeats 4000000 in
set_option maxRecDepth 100000 in
theorem m_Table_put {g : xG} {nx : Nat} {sh : Nat → Nat × Nat} {P : Nat → Nat → Option Nat} {I : Nat → Nat → Int32} {t c W L n : Nat} (hT : xTb sh P I t c W L n) {r q : Nat} {v : Int32} (hr : r < n) (hq : q < W) : xMet g Y_Table_put 1 0 0 [.ref t, .int (nI r), .int (nI q), .int v] (nx, sh, P, I) (fun z σ => z = some (.int (I c (r * W + q))) ∧ σ = (nx, sh, P, xup I c (r * W + q) v)) := by
  refine xMet.of [some (.ref t), some (.int (nI r)), some (.int (nI q)), some (.int v), none, none] (by decide +kernel) (Nat.le_of_ble_eq_true rfl) rfl ?_
  obtain ⟨hT1, hT2, hT3, hT4, hT5, hT6, hT7, hT8, hT9, hT10, hT11⟩ := id hT
  obtain ⟨hTn, hTW, hTL⟩ := hT.lt
  have hrw : nI r * nI W + nI q = nI (r * W + q) := by rw [pk_mul, nI_add]
  have hix := tb_ix hr hT7 hq
  refine x_iload_n dX8_put_0 rfl ?_
  refine x_aload_n dX8_put_1 rfl ?_
  refine y_geti dX8_put_2 F_Table_19 hT1 rfl hT4 ?_
  refine x_imul dX8_put_5 ?_
  refine x_iload_n dX8_put_6 rfl ?_
  refine x_iadd dX8_put_7 ?_
  rw [hrw]
  refine x_istore dX8_put_8 (Nat.le_of_ble_eq_true rfl) ?_
  try simp only [xst, xst2, xclr, xset, xwide]
  refine x_aload_n dX8_put_10 rfl ?_
  refine x_iload_n dX8_put_11 rfl ?_
  refine x_iload_n dX8_put_12 rfl ?_
  refine x_callV (k2 := 0) (n2 := 0) dX8_put_13 LV_Table_33 (m_Table_isInside hT) rfl rfl hT1 rfl (Nat.le_of_ble_eq_true rfl) (Nat.le_of_ble_eq_true rfl) (Nat.le_of_ble_eq_true rfl) (Nat.le_of_ble_eq_true rfl) ?_
  rintro _ _ ⟨rfl, rfl⟩
  refine x_if_eq (tgt := 34) dX8_put_16 rfl (fun c16 => ?_) (fun c16 => ?_)
  · exact absurd (⟨(nI_in2 hr (by omega)).1, (nI_in2 hr (by omega)).2, (nI_in2 hq (by omega)).1, (nI_in2 hq (by omega)).2⟩) (b_f c16)
  · refine x_iload dX8_put_19 rfl ?_
    refine x_if_lt (tgt := 34) dX8_put_21 rfl (fun c21 => ?_) (fun c21 => ?_)
    · exact absurd c21 (nI_pos (by omega))
    · refine x_iload dX8_put_24 rfl ?_
      refine x_aload_n dX8_put_26 rfl ?_
      refine y_getr dX8_put_27 F_Table_25 hT1 rfl hT2 ?_
      refine y_alen dX8_put_30 hT3 (by decide) ?_
      refine x_icmp_lt (tgt := 36) dX8_put_31 rfl (fun c31 => ?_) (fun c31 => ?_)
      · refine x_aload_n dX8_put_36 rfl ?_
        refine y_getr dX8_put_37 F_Table_25 hT1 rfl hT2 ?_
        refine x_iload dX8_put_40 rfl ?_
        refine y_iaload dX8_put_42 hT3 (vp_in_nI hix (by omega)) (congrArg (I c) (nI_clamp (by omega))) ?_
        refine x_istore dX8_put_43 (Nat.le_of_ble_eq_true rfl) ?_
        try simp only [xst, xst2, xclr, xset, xwide]
        refine x_aload_n dX8_put_45 rfl ?_
        refine y_getr dX8_put_46 F_Table_25 hT1 rfl hT2 ?_
        refine x_iload dX8_put_49 rfl ?_
        refine x_iload_n dX8_put_51 rfl ?_
        refine y_iastore dX8_put_52 hT3 (vp_in_nI hix (by omega)) (nI_clamp (by omega)) ?_
        refine x_iload dX8_put_53 rfl ?_
        refine x_ireturn dX8_put_55 rfl nb_int ?_
        exact ⟨rfl, rfl⟩
      · exact absurd (nI_lt hix (by omega)) c31

/-- a sum of products: the first m of f from a on, each by g -/
def xSm (f g : Nat → Int32) (a : Nat) : Nat → Int32
  | 0 => 0
  | m + 1 => xSm f g a m + f (a + m) * g m

set_option maxHeartbeats 4000000 in
set_option maxRecDepth 100000 in
theorem m_Table_sum {g : xG} {nx : Nat} {sh : Nat → Nat × Nat} {P : Nat → Nat → Option Nat} {I : Nat → Nat → Int32} {t c W L n : Nat} (hT : xTb sh P I t c W L n) {r q w m : Nat} (hr : r < n) (hq : q < W) (hw : sh w = (12, m)) (hm0 : m ≤ W - q) : xMet g Y_Table_sum 1 0 0 [.ref t, .int (nI r), .int (nI q), .ref w] (nx, sh, P, I) (fun z σ => z = some (.int (xSm (I c) (I w) (r * W + q) m)) ∧ σ = (nx, sh, P, I)) := by
  refine xMet.of [some (.ref t), some (.int (nI r)), some (.int (nI q)), some (.ref w), none, none, none, none] (by decide +kernel) (Nat.le_of_ble_eq_true rfl) rfl ?_
  obtain ⟨hT1, hT2, hT3, hT4, hT5, hT6, hT7, hT8, hT9, hT10, hT11⟩ := id hT
  obtain ⟨hTn, hTW, hTL⟩ := hT.lt
  have hrw : nI r * nI W + nI q = nI (r * W + q) := by rw [pk_mul, nI_add]
  have hix := tb_ix hr hT7 hq
  refine x_aload_n dX8_sum_0 rfl ?_
  refine x_iload_n dX8_sum_1 rfl ?_
  refine x_iload_n dX8_sum_2 rfl ?_
  refine x_callV (k2 := 0) (n2 := 0) dX8_sum_3 LV_Table_33 (m_Table_isInside hT) rfl rfl hT1 rfl (Nat.le_of_ble_eq_true rfl) (Nat.le_of_ble_eq_true rfl) (Nat.le_of_ble_eq_true rfl) (Nat.le_of_ble_eq_true rfl) ?_
  rintro _ _ ⟨rfl, rfl⟩
  refine x_if_ne (tgt := 11) dX8_sum_6 rfl (fun c6 => ?_) (fun c6 => ?_)
  · refine x_iconst (v := 0) dX8_sum_11 (by decide) ?_
    refine x_istore dX8_sum_12 (Nat.le_of_ble_eq_true rfl) ?_
    try simp only [xst, xst2, xclr, xset, xwide]
    refine x_iload_n dX8_sum_14 rfl ?_
    refine x_aload_n dX8_sum_15 rfl ?_
    refine y_geti dX8_sum_16 F_Table_19 hT1 rfl hT4 ?_
    refine x_imul dX8_sum_19 ?_
    refine x_iload_n dX8_sum_20 rfl ?_
    refine x_iadd dX8_sum_21 ?_
    rw [hrw]
    refine x_istore dX8_sum_22 (Nat.le_of_ble_eq_true rfl) ?_
    try simp only [xst, xst2, xclr, xset, xwide]
    refine x_aload_n dX8_sum_24 rfl ?_
    refine y_alen dX8_sum_25 hw (by decide) ?_
    refine x_aload_n dX8_sum_26 rfl ?_
    refine y_geti dX8_sum_27 F_Table_19 hT1 rfl hT4 ?_
    refine x_iload_n dX8_sum_30 rfl ?_
    refine x_isub dX8_sum_31 ?_
    rw [pk_sub (by omega)]
    refine x_callS (k2 := 0) (n2 := 0) dX8_sum_32 LS_Table_37 m_min rfl rfl (Nat.le_of_ble_eq_true rfl) (Nat.le_of_ble_eq_true rfl) (Nat.le_of_ble_eq_true rfl) (Nat.le_of_ble_eq_true rfl) ?_
    rintro _ _ ⟨rfl, rfl⟩
    have hmin : (if nI m ≤ nI (W - q) then nI m else nI (W - q)) = nI m := if_pos (nI_le hm0 (by omega))
    rw [hmin]
    refine x_istore dX8_sum_35 (Nat.le_of_ble_eq_true rfl) ?_
    try simp only [xst, xst2, xclr, xset, xwide]
    refine x_iconst (v := 0) dX8_sum_37 (by decide) ?_
    refine x_istore dX8_sum_38 (Nat.le_of_ble_eq_true rfl) ?_
    try simp only [xst, xst2, xclr, xset, xwide]
    have K40 : ∀ (fuel : Nat) (i : Nat) (acc : Int32) (cl : Int32) (hi : i ≤ m) (hacc : acc = xSm (I c) (I w) (r * W + q) i) (hcl : cl = nI (r * W + q + i)), m - i < fuel → xX g Y_Table_sum 1 0 0 (fun z σ => z = some (.int (xSm (I c) (I w) (r * W + q) m)) ∧ σ = (nx, sh, P, I)) 40 [some (.ref t), some (.int (nI r)), some (.int (nI q)), some (.ref w), some (.int acc), some (.int cl), some (.int (nI m)), some (.int (nI i))] [] (nx, sh, P, I) := by
      intro fuel
      induction fuel with
      | zero => intro i acc cl hi hacc hcl hm; exact absurd hm (Nat.not_lt_zero _)
      | succ fuel ih40 =>
        intro i acc cl hi hacc hcl hm
        refine x_iload dX8_sum_40 rfl ?_
        refine x_iload dX8_sum_42 rfl ?_
        refine x_icmp_ge (tgt := 88) dX8_sum_44 rfl (fun c44 => ?_) (fun c44 => ?_)
        · have hie : i = m := by
            rcases Nat.lt_or_ge i m with z | z
            · exact absurd c44 (nI_ge z (by omega))
            · omega
          subst hie
          refine x_iload dX8_sum_88 rfl ?_
          refine x_ireturn dX8_sum_90 rfl nb_int ?_
          exact ⟨by rw [hacc], rfl⟩
        · have him : i < m := by
            rcases Nat.lt_or_ge i m with z | z
            · exact z
            · exact absurd (nI_le z (by omega)) c44
          have hj : r * W + q + i < W * L := by have hj2 := tb_ix hr hT7 (show q + i < W by omega); omega
          subst hcl
          refine x_iload dX8_sum_47 rfl ?_
          refine x_if_lt (tgt := 88) dX8_sum_49 rfl (fun c49 => ?_) (fun c49 => ?_)
          · exact absurd c49 (nI_pos (by omega))
          · refine x_iload dX8_sum_52 rfl ?_
            refine x_aload_n dX8_sum_54 rfl ?_
            refine y_getr dX8_sum_55 F_Table_25 hT1 rfl hT2 ?_
            refine y_alen dX8_sum_58 hT3 (by decide) ?_
            refine x_icmp_ge (tgt := 88) dX8_sum_59 rfl (fun c59 => ?_) (fun c59 => ?_)
            · exact absurd c59 (nI_ge (by omega) (by omega))
            · refine x_iload dX8_sum_62 rfl ?_
              refine x_aload_n dX8_sum_64 rfl ?_
              refine y_getr dX8_sum_65 F_Table_25 hT1 rfl hT2 ?_
              refine x_iload dX8_sum_68 rfl ?_
              refine y_iaload dX8_sum_70 hT3 (vp_in_nI hj (by omega)) (congrArg (I c) (nI_clamp (by omega))) ?_
              refine x_aload_n dX8_sum_71 rfl ?_
              refine x_iload dX8_sum_72 rfl ?_
              refine y_iaload dX8_sum_74 hw (vp_in_nI him (by omega)) (congrArg (I w) (nI_clamp (by omega))) ?_
              refine x_imul dX8_sum_75 ?_
              refine x_iadd dX8_sum_76 ?_
              refine x_istore dX8_sum_77 (Nat.le_of_ble_eq_true rfl) ?_
              try simp only [xst, xst2, xclr, xset, xwide]
              refine x_iinc (v := (nI (r * W + q + (i + 1)))) dX8_sum_79 rfl (nI_1 _) (Nat.le_of_ble_eq_true rfl) ?_
              try simp only [xst, xst2, xclr, xset, xwide]
              refine x_iinc (v := (nI (i + 1))) dX8_sum_82 rfl (nI_1 i) (Nat.le_of_ble_eq_true rfl) ?_
              try simp only [xst, xst2, xclr, xset, xwide]
              refine x_goto (tgt := 40) dX8_sum_85 rfl ?_
              exact ih40 (i + 1) _ _ (by omega) (by rw [hacc]; rfl) rfl (by omega)
    exact K40 _ 0 0 (nI (r * W + q)) (Nat.zero_le _) rfl rfl (Nat.lt_succ_self _)
  · exact absurd (⟨(nI_in2 hr (by omega)).1, (nI_in2 hr (by omega)).2, (nI_in2 hq (by omega)).1, (nI_in2 hq (by omega)).2⟩ : 0 ≤ nI r ∧ nI r < nI n ∧ 0 ≤ nI q ∧ nI q < nI W) (by grind)

/-- zeros from place a on, i of them -/
def xZf (f : Nat → Int32) (a i : Nat) : Nat → Int32 := fun j => if a ≤ j ∧ j < a + i then 0 else f j
theorem xZf_0 {f : Nat → Int32} {a : Nat} : xZf f a 0 = f := by funext j; unfold xZf; rw [if_neg (by omega)]
theorem xZf_s {f : Nat → Int32} {a i : Nat} : upd (xZf f a i) (a + i) 0 = xZf f a (i + 1) := by
  funext j; unfold upd xZf
  by_cases h : j = a + i
  · rw [if_pos h, if_pos (by omega)]
  · rw [if_neg h]
    by_cases h2 : a ≤ j ∧ j < a + i
    · rw [if_pos h2, if_pos (by omega)]
    · rw [if_neg h2, if_neg (by omega)]
theorem xup_row {I : Nat → Nat → Int32} {a k : Nat} {f : Nat → Int32} {v : Int32} : xup (va_up I a f) a k v = va_up I a (upd f k v) := by
  funext b; unfold xup va_up
  by_cases h : b = a
  · subst h; simp
  · simp [h]
theorem va_up_id {I : Nat → Nat → Int32} {a : Nat} : va_up I a (I a) = I := by funext b; unfold va_up; by_cases h : b = a <;> simp [h]
theorem va_up_at {I : Nat → Nat → Int32} {a : Nat} {f : Nat → Int32} : va_up I a f a = f := if_pos rfl
theorem va_up_no {I : Nat → Nat → Int32} {a b : Nat} {f : Nat → Int32} (h : b ≠ a) : va_up I a f b = I b := if_neg h
/-- a Table whose number of rows is written -/
theorem xTb.rows {sh : Nat → Nat × Nat} {P : Nat → Nat → Option Nat} {I : Nat → Nat → Int32} {t c W L n m : Nat} (h : xTb sh P I t c W L n) (hm : m ≤ L) : xTb sh P (xup I t 3 (nI m)) t c W L m := by
  obtain ⟨h1, h2, h3, h4, h5, h6, h7, h8⟩ := h
  exact ⟨h1, h2, h3, by rw [xup_at, if_neg (by omega)]; exact h4, by rw [xup_at, if_neg (by omega)]; exact h5, by rw [xup_at, if_pos ⟨rfl, rfl⟩], hm, h8⟩

set_option maxHeartbeats 4000000 in
set_option maxRecDepth 100000 in
theorem m_Table_clear {g : xG} {nx : Nat} {sh : Nat → Nat × Nat} {P : Nat → Nat → Option Nat} {I : Nat → Nat → Int32} {t c W L n : Nat} (hT : xTb sh P I t c W L n)  : xMet g Y_Table_clear 0 0 0 [.ref t] (nx, sh, P, I) (fun z σ => z = none ∧ σ = (nx, sh, P, xup I t 3 0)) := by
  refine xMet.of [some (.ref t)] (by decide +kernel) (Nat.le_of_ble_eq_true rfl) rfl ?_
  obtain ⟨hT1, hT2, hT3, hT4, hT5, hT6, hT7, hT8, hT9, hT10, hT11⟩ := id hT
  obtain ⟨hTn, hTW, hTL⟩ := hT.lt
  refine x_aload_n dX8_clear_0 rfl ?_
  refine x_iconst (v := 0) dX8_clear_1 (by decide) ?_
  refine x_puti dX8_clear_2 F_Table_7 T_8_3 hT1 rfl rfl rfl ?_
  refine x_return dX8_clear_5 rfl ?_
  exact ⟨rfl, rfl⟩

set_option maxHeartbeats 4000000 in
set_option maxRecDepth 100000 in
theorem m_Table_add {g : xG} {nx : Nat} {sh : Nat → Nat × Nat} {P : Nat → Nat → Option Nat} {I : Nat → Nat → Int32} {t c W L n : Nat} (hT : xTb sh P I t c W L n) (hn : n < L) : xMet g Y_Table_add 2 0 0 [.ref t] (nx, sh, P, I) (fun z σ => z = some (.int (nI n)) ∧ σ = (nx, sh, P, va_up (xup I t 3 (nI (n + 1))) c (xZf (I c) (n * W) W))) := by
  refine xMet.of [some (.ref t), none] (by decide +kernel) (Nat.le_of_ble_eq_true rfl) rfl ?_
  obtain ⟨hT1, hT2, hT3, hT4, hT5, hT6, hT7, hT8, hT9, hT10, hT11⟩ := id hT
  obtain ⟨hTn, hTW, hTL⟩ := hT.lt
  refine x_aload_n dX8_add_0 rfl ?_
  refine y_geti dX8_add_1 F_Table_7 hT1 rfl hT6 ?_
  refine x_aload_n dX8_add_4 rfl ?_
  refine y_geti dX8_add_5 F_Table_22 hT1 rfl hT5 ?_
  refine x_icmp_lt (tgt := 13) dX8_add_8 rfl (fun c8 => ?_) (fun c8 => ?_)
  · skip
    refine x_aload_n dX8_add_13 rfl ?_
    refine x_dup dX8_add_14 rfl ?_
    refine y_geti dX8_add_15 F_Table_7 hT1 rfl hT6 ?_
    refine x_iconst (v := 1) dX8_add_18 (by decide) ?_
    refine x_iadd dX8_add_19 ?_
    rw [nI_1]
    refine x_puti dX8_add_20 F_Table_7 T_8_3 hT1 rfl rfl rfl ?_
    have hT9' := hT.rows (m := n + 1) (by omega)
    refine x_iconst (v := 0) dX8_add_23 (by decide) ?_
    have e0 : xup I t 3 (nI (n + 1)) = va_up (xup I t 3 (nI (n + 1))) c (xZf (I c) (n * W) 0) := by rw [xZf_0]; have e1 : xup I t 3 (nI (n + 1)) c = I c := xup_n (Ne.symm hT11); rw [← e1, va_up_id]
    refine y_st e0 ?_
    refine x_istore_n dX8_add_24 (Nat.le_of_ble_eq_true rfl) ?_
    try simp only [xst, xst2, xclr, xset, xwide]
    have K25 : ∀ (fuel : Nat) (i : Nat) (hi : i ≤ W), W - i < fuel → xX g Y_Table_add 2 0 0 (fun z σ => z = some (.int (nI n)) ∧ σ = (nx, sh, P, va_up (xup I t 3 (nI (n + 1))) c (xZf (I c) (n * W) W))) 25 [some (.ref t), some (.int (nI i))] [] (nx, sh, P, va_up (xup I t 3 (nI (n + 1))) c (xZf (I c) (n * W) i)) := by
      intro fuel
      induction fuel with
      | zero => intro i hi hm; exact absurd hm (Nat.not_lt_zero _)
      | succ fuel ih25 =>
        intro i hi hm
        have hTi : xTb sh P (va_up (xup I t 3 (nI (n + 1))) c (xZf (I c) (n * W) i)) t c W L (n + 1) := hT9'.other (va_up_no hT11)
        obtain ⟨-, -, -, hi4, hi5, hi6, -⟩ := id hTi
        refine x_iload_n dX8_add_25 rfl ?_
        refine x_aload_n dX8_add_26 rfl ?_
        refine y_geti dX8_add_27 F_Table_19 hT1 rfl hi4 ?_
        refine x_icmp_ge (tgt := 52) dX8_add_30 rfl (fun c30 => ?_) (fun c30 => ?_)
        · have hie : i = W := by
            rcases Nat.lt_or_ge i W with z | z
            · exact absurd c30 (nI_ge z (by omega))
            · omega
          subst hie
          refine x_aload_n dX8_add_52 rfl ?_
          refine y_geti dX8_add_53 F_Table_7 hT1 rfl hi6 ?_
          refine x_iconst (v := 1) dX8_add_56 (by decide) ?_
          refine x_isub dX8_add_57 ?_
          rw [nI_pred]
          refine x_ireturn dX8_add_58 rfl nb_int ?_
          exact ⟨rfl, rfl⟩
        · have him : i < W := by
            rcases Nat.lt_or_ge i W with z | z
            · exact z
            · exact absurd (nI_le z (by omega)) c30
          refine x_aload_n dX8_add_33 rfl ?_
          refine x_aload_n dX8_add_34 rfl ?_
          refine y_geti dX8_add_35 F_Table_7 hT1 rfl hi6 ?_
          refine x_iconst (v := 1) dX8_add_38 (by decide) ?_
          refine x_isub dX8_add_39 ?_
          rw [nI_pred]
          refine x_iload_n dX8_add_40 rfl ?_
          refine x_iconst (v := 0) dX8_add_41 (by decide) ?_
          refine x_callV (k2 := 0) (n2 := 0) dX8_add_42 LV_Table_29 (m_Table_put (r := n) (q := i) hTi (by omega) him) rfl rfl hT1 rfl (Nat.le_of_ble_eq_true rfl) (Nat.le_of_ble_eq_true rfl) (Nat.le_of_ble_eq_true rfl) (Nat.le_of_ble_eq_true rfl) ?_
          rintro _ _ ⟨rfl, rfl⟩
          rw [xup_row, xZf_s]
          refine x_pop dX8_add_45 rfl ?_
          refine x_iinc (v := (nI (i + 1))) dX8_add_46 rfl (nI_1 i) (Nat.le_of_ble_eq_true rfl) ?_
          try simp only [xst, xst2, xclr, xset, xwide]
          refine x_goto (tgt := 25) dX8_add_49 rfl ?_
          exact ih25 (i + 1) (by omega) (by omega)
    exact K25 _ 0 (Nat.zero_le _) (Nat.lt_succ_self _)
  · exact absurd (nI_le (show L ≤ L by omega) (by omega)) (fun z => by exact absurd ((nI_leI (a := L) (b := n) (by omega) (by omega)).mp (Int32.not_lt.mp c8)) (by omega))

/-- the first m from f, the rest from g -/
def xTk (f g : Nat → Int32) (m : Nat) : Nat → Int32 := fun j => if j < m then f j else g j
theorem xTk_0 {f g : Nat → Int32} : xTk f g 0 = g := by funext j; unfold xTk; rw [if_neg (by omega)]
theorem xTk_s {f g : Nat → Int32} {m : Nat} : upd (xTk f g m) m (f m) = xTk f g (m + 1) := by
  funext j; unfold upd xTk
  by_cases h : j = m
  · subst h; rw [if_pos rfl, if_pos (by omega)]
  · rw [if_neg h]
    by_cases h2 : j < m
    · rw [if_pos h2, if_pos (by omega)]
    · rw [if_neg h2, if_neg (by omega)]
theorem y_copy0 {g : xG} {y : xY} {d k n : Nat} {Q : Option Value → xS → Prop} {pc : Nat} {ls : List (Option Value)} {st : List Value} {nx : Nat} {sh : Nat → Nat × Nat} {P : Nat → Nat → Option Nat} {I : Nat → Nat → Int32} {a b la lb index m : Nat} (hd : decode y.2.1 pc = .ok (.invokestatic index, 3)) (hlink : Cond.methodLink y.1.cls index arraycopyName ∈ lw_g) (ha : sh a = (12, la)) (hb : sh b = (12, lb)) (hm : m < 2 ^ 31) (hla : m ≤ la) (hlb : m ≤ lb) (hdp : 1 ≤ d) (hrest : (st.map fun v => v.category).sum ≤ 8) (kk : xX g y d k n Q (pc + 3) ls st (nx, sh, P, va_up I b (xTk (I a) (I b) m))) : xX g y d k n Q pc ls (.int (nI m) :: .int 0 :: .ref b :: .int 0 :: .ref a :: st) (nx, sh, P, I) := by
  have z0 : (0 : Int32).toNatClampNeg = 0 := rfl
  refine x_copy hd hlink CP_nat CP_stat CP_ini ha hb (by decide) (by decide) (nI_pos hm) (by rw [nI_clamp hm, z0]; omega) (by rw [nI_clamp hm, z0]; omega) hdp hrest ?_
  rw [nI_clamp hm, z0]
  have e : (fun q => if q = b then va_cpy (I a) (I b) 0 0 m else I q) = va_up I b (xTk (I a) (I b) m) := by
    funext q
    unfold va_up
    by_cases hq : q = b
    · rw [if_pos hq, if_pos hq]
      funext j
      unfold va_cpy xTk
      by_cases hj : j < m
      · rw [if_pos ⟨Nat.zero_le _, by omega⟩, if_pos hj]; congr 1; omega
      · rw [if_neg (by omega), if_neg hj]
    · rw [if_neg hq, if_neg hq]
  rw [e]
  exact kk

set_option maxHeartbeats 4000000 in
set_option maxRecDepth 100000 in
theorem m_Table_takeOver {g : xG} {nx : Nat} {sh : Nat → Nat × Nat} {P : Nat → Nat → Option Nat} {I : Nat → Nat → Int32} {t c W L n t2 c2 n2 : Nat} (hT : xTb sh P I t c W L n) (hU : xTb sh P I t2 c2 W L n2) (hUc : t2 ≠ c) : xMet g Y_Table_takeOver 1 0 0 [.ref t, .ref t2] (nx, sh, P, I) (fun z σ => z = none ∧ σ = (nx, sh, P, xup (va_up I c (xTk (I c2) (I c) (W * L))) t 3 (nI n2))) := by
  refine xMet.of [some (.ref t), some (.ref t2)] (by decide +kernel) (Nat.le_of_ble_eq_true rfl) rfl ?_
  obtain ⟨hT1, hT2, hT3, hT4, hT5, hT6, hT7, hT8, hT9, hT10, hT11⟩ := id hT
  obtain ⟨hTn, hTW, hTL⟩ := hT.lt
  obtain ⟨hU1, hU2, hU3, hU4, hU5, hU6, hU7, hU8, hU9, hU10, hU11⟩ := id hU
  obtain ⟨hUn, hUW, hUL⟩ := hU.lt
  refine x_aload_n dX8_takeOver_0 rfl ?_
  refine y_getr dX8_takeOver_1 F_Table_25 hU1 rfl hU2 ?_
  refine x_iconst (v := 0) dX8_takeOver_4 (by decide) ?_
  refine x_aload_n dX8_takeOver_5 rfl ?_
  refine y_getr dX8_takeOver_6 F_Table_25 hT1 rfl hT2 ?_
  refine x_iconst (v := 0) dX8_takeOver_9 (by decide) ?_
  refine x_aload_n dX8_takeOver_10 rfl ?_
  refine y_getr dX8_takeOver_11 F_Table_25 hT1 rfl hT2 ?_
  refine y_alen dX8_takeOver_14 hT3 (by decide) ?_
  refine x_aload_n dX8_takeOver_15 rfl ?_
  refine y_getr dX8_takeOver_16 F_Table_25 hU1 rfl hU2 ?_
  refine y_alen dX8_takeOver_19 hU3 (by decide) ?_
  refine x_callS (k2 := 0) (n2 := 0) dX8_takeOver_20 LS_Table_37 m_min rfl rfl (Nat.le_of_ble_eq_true rfl) (Nat.le_of_ble_eq_true rfl) (Nat.le_of_ble_eq_true rfl) (Nat.le_of_ble_eq_true rfl) ?_
  rintro _ _ ⟨rfl, rfl⟩
  rw [show (if nI (W * L) ≤ nI (W * L) then nI (W * L) else nI (W * L)) = nI (W * L) from ite_self _]
  refine y_copy0 dX8_takeOver_23 CP_Table_40 hU3 hT3 (by omega) (Nat.le_refl _) (Nat.le_refl _) (Nat.le_of_ble_eq_true rfl) (Nat.le_of_ble_eq_true rfl) ?_
  refine x_aload_n dX8_takeOver_26 rfl ?_
  refine x_aload_n dX8_takeOver_27 rfl ?_
  refine y_geti dX8_takeOver_28 F_Table_22 hT1 rfl ((congrFun (va_up_no hT11) _).trans hT5) ?_
  refine x_aload_n dX8_takeOver_31 rfl ?_
  refine y_geti dX8_takeOver_32 F_Table_7 hU1 rfl ((congrFun (va_up_no hUc) _).trans hU6) ?_
  refine x_callS (k2 := 0) (n2 := 0) dX8_takeOver_35 LS_Table_37 m_min rfl rfl (Nat.le_of_ble_eq_true rfl) (Nat.le_of_ble_eq_true rfl) (Nat.le_of_ble_eq_true rfl) (Nat.le_of_ble_eq_true rfl) ?_
  rintro _ _ ⟨rfl, rfl⟩
  rw [show (if nI L ≤ nI n2 then nI L else nI n2) = nI n2 from by by_cases z : nI L ≤ nI n2 <;> simp [z]; have := (nI_leI (by omega) (by omega)).mp z; congr 1; omega]
  refine x_puti dX8_takeOver_38 F_Table_7 T_8_3 hT1 rfl rfl rfl ?_
  refine x_return dX8_takeOver_41 rfl ?_
  exact ⟨rfl, rfl⟩
