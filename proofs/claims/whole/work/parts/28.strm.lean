/-! the literals: length, coder -/
theorem shr0 {x : Int32} : x >>> ((0 : Int32) &&& 31) = x := by
  rw [show ((0 : Int32) &&& 31) = 0 by decide]
  simp

set_option maxHeartbeats 4000000 in
set_option maxRecDepth 100000 in
theorem j_coder {g : xG} {nx : Nat} {sh : Nat → Nat × Nat} {P : Nat → Nat → Option Nat} {I : Nat → Nat → Int32} {i : Nat} (hi : i < 10) : xMet g Y_J_0_coder_7d493 0 0 0 [.ref (8 + i)] (nx, sh, P, I) (fun r σ => r = some (.int 0) ∧ σ = (nx, sh, P, I)) := by
  refine xMet.of [some (.ref (8 + i))] (by decide +kernel) (Nat.le_of_ble_eq_true rfl) rfl ?_
  refine x_getsC dJ0_coder_7d493_0 S_J0_38 ?_
  refine x_if_eq (tgt := 13) dJ0_coder_7d493_3 rfl (fun c3 => ?_) (fun c3 => ?_)
  · exact absurd c3 (by decide)
  · skip
    refine x_aload_n dJ0_coder_7d493_6 rfl ?_
    refine x_sget (v := .int 0) dJ0_coder_7d493_7 S_J0_15 (xOs_c hi) ?_
    refine x_goto (tgt := 14) dJ0_coder_7d493_10 rfl ?_
    refine x_ireturn dJ0_coder_7d493_14 rfl nb_int ?_
    exact ⟨rfl, rfl⟩

set_option maxHeartbeats 4000000 in
set_option maxRecDepth 100000 in
theorem j_isLatin1 {g : xG} {nx : Nat} {sh : Nat → Nat × Nat} {P : Nat → Nat → Option Nat} {I : Nat → Nat → Int32} {i : Nat} (hi : i < 10) : xMet g Y_J_0_isLatin1_aae02 0 0 0 [.ref (8 + i)] (nx, sh, P, I) (fun r σ => r = some (.int 1) ∧ σ = (nx, sh, P, I)) := by
  refine xMet.of [some (.ref (8 + i))] (by decide +kernel) (Nat.le_of_ble_eq_true rfl) rfl ?_
  refine x_getsC dJ0_isLatin1_aae02_0 S_J0_38 ?_
  refine x_if_eq (tgt := 17) dJ0_isLatin1_aae02_3 rfl (fun c3 => ?_) (fun c3 => ?_)
  · exact absurd c3 (by decide)
  · skip
    refine x_aload_n dJ0_isLatin1_aae02_6 rfl ?_
    refine x_sget (v := .int 0) dJ0_isLatin1_aae02_7 S_J0_15 (xOs_c hi) ?_
    refine x_if_ne (tgt := 17) dJ0_isLatin1_aae02_10 rfl (fun c10 => ?_) (fun c10 => ?_)
    · exact absurd rfl c10
    · skip
      refine x_iconst (v := 1) dJ0_isLatin1_aae02_13 (by decide) ?_
      refine x_goto (tgt := 18) dJ0_isLatin1_aae02_14 rfl ?_
      refine x_ireturn dJ0_isLatin1_aae02_18 rfl rfl ?_
      exact ⟨rfl, rfl⟩

set_option maxHeartbeats 4000000 in
set_option maxRecDepth 100000 in
theorem j_length {g : xG} {nx : Nat} {sh : Nat → Nat × Nat} {P : Nat → Nat → Option Nat} {I : Nat → Nat → Int32} {i : Nat} (hi : i < 10) : xMet g Y_J_0_length_8abf5 1 0 0 [.ref (8 + i)] (nx, sh, P, I) (fun r σ => r = some (.int (nI (xTl.getD i 0))) ∧ σ = (nx, sh, P, I)) := by
  refine xMet.of [some (.ref (8 + i))] (by decide +kernel) (Nat.le_of_ble_eq_true rfl) rfl ?_
  refine x_aload_n dJ0_length_8abf5_0 rfl ?_
  refine x_sget (v := .ref (24 + i)) dJ0_length_8abf5_1 S_J0_9 (xOs_v hi) ?_
  refine x_oalen dJ0_length_8abf5_4 (xOa_T hi) ?_
  refine x_aload_n dJ0_length_8abf5_5 rfl ?_
  refine x_callVs (k2 := 0) (n2 := 0) dJ0_length_8abf5_6 LV_J0_335 (j_coder hi) rfl rfl (xOs_o hi) rfl (Nat.le_of_ble_eq_true rfl) (Nat.le_of_ble_eq_true rfl) (Nat.le_of_ble_eq_true rfl) (Nat.le_of_ble_eq_true rfl) ?_
  rintro _ _ ⟨rfl, rfl⟩
  refine x_ishr dJ0_length_8abf5_9 ?_
  rw [shr0]
  refine x_ireturn dJ0_length_8abf5_10 rfl nb_int ?_
  exact ⟨rfl, rfl⟩

/-- sign j of literal i -/
def sg (i j : Nat) : Int32 := (xTx.getD i []).getD j 0
theorem sg_c : ∀ i : Fin 10, ∀ j : Fin 6, j.1 < xTl.getD i.1 0 → ((sg i.1 j.1 &&& 255).toUInt32 % 65536).toInt32 = sg i.1 j.1 := by decide +kernel
theorem sl_le : ∀ i : Fin 10, xTl.getD i.1 0 ≤ 6 := by decide +kernel
theorem sg_n : ∀ i : Fin 10, ∀ j : Fin 6, narrow .char (.int (sg i.1 j.1)) = .int (sg i.1 j.1) := by decide +kernel

set_option maxHeartbeats 4000000 in
set_option maxRecDepth 100000 in
theorem j_pre {g : xG} {nx : Nat} {sh : Nat → Nat × Nat} {P : Nat → Nat → Option Nat} {I : Nat → Nat → Int32} {j len : Nat} (hj : j < len) (hn : len < 2 ^ 31) : xMet g Y_J_3_checkIndex_8e157 0 0 0 [.int (nI j), .int (nI len), .ref 3] (nx, sh, P, I) (fun r σ => r = some (.int (nI j)) ∧ σ = (nx, sh, P, I)) := by
  refine xMet.of [some (.int (nI j)), some (.int (nI len)), some (.ref 3)] (by decide +kernel) (Nat.le_of_ble_eq_true rfl) rfl ?_
  refine x_iload_n dJ3_checkIndex_8e157_0 rfl ?_
  refine x_if_lt (tgt := 9) dJ3_checkIndex_8e157_1 rfl (fun c1 => ?_) (fun c1 => ?_)
  · exact absurd c1 (nI_pos (by omega))
  · skip
    refine x_iload_n dJ3_checkIndex_8e157_4 rfl ?_
    refine x_iload_n dJ3_checkIndex_8e157_5 rfl ?_
    refine x_icmp_lt (tgt := 16) dJ3_checkIndex_8e157_6 rfl (fun c6 => ?_) (fun c6 => ?_)
    · skip
      refine x_iload_n dJ3_checkIndex_8e157_16 rfl ?_
      refine x_ireturn dJ3_checkIndex_8e157_17 rfl nb_int ?_
      exact ⟨rfl, rfl⟩
    · exact absurd (nI_lt hj hn) c6

set_option maxHeartbeats 4000000 in
set_option maxRecDepth 100000 in
theorem j_preN {g : xG} {nx : Nat} {sh : Nat → Nat × Nat} {P : Nat → Nat → Option Nat} {I : Nat → Nat → Int32} {j len : Nat} (hj : j < len) (hn : len < 2 ^ 31) : xMet g Y_J_3_checkIndex_8e157 0 0 0 [.int (nI j), .int (nI len), .null] (nx, sh, P, I) (fun r σ => r = some (.int (nI j)) ∧ σ = (nx, sh, P, I)) := by
  refine xMet.of [some (.int (nI j)), some (.int (nI len)), some .null] (by decide +kernel) (Nat.le_of_ble_eq_true rfl) rfl ?_
  refine x_iload_n dJ3_checkIndex_8e157_0 rfl ?_
  refine x_if_lt (tgt := 9) dJ3_checkIndex_8e157_1 rfl (fun c1 => ?_) (fun c1 => ?_)
  · exact absurd c1 (nI_pos (by omega))
  · skip
    refine x_iload_n dJ3_checkIndex_8e157_4 rfl ?_
    refine x_iload_n dJ3_checkIndex_8e157_5 rfl ?_
    refine x_icmp_lt (tgt := 16) dJ3_checkIndex_8e157_6 rfl (fun c6 => ?_) (fun c6 => ?_)
    · skip
      refine x_iload_n dJ3_checkIndex_8e157_16 rfl ?_
      refine x_ireturn dJ3_checkIndex_8e157_17 rfl nb_int ?_
      exact ⟨rfl, rfl⟩
    · exact absurd (nI_lt hj hn) c6

set_option maxHeartbeats 4000000 in
set_option maxRecDepth 100000 in
theorem j_chk {g : xG} {nx : Nat} {sh : Nat → Nat × Nat} {P : Nat → Nat → Option Nat} {I : Nat → Nat → Int32} {j len : Nat} (hj : j < len) (hn : len < 2 ^ 31) : xMet g Y_J_0_checkIndex_df160 1 0 0 [.int (nI j), .int (nI len)] (nx, sh, P, I) (fun r σ => r = none ∧ σ = (nx, sh, P, I)) := by
  refine xMet.of [some (.int (nI j)), some (.int (nI len))] (by decide +kernel) (Nat.le_of_ble_eq_true rfl) rfl ?_
  refine x_iload_n dJ0_checkIndex_df160_0 rfl ?_
  refine x_iload_n dJ0_checkIndex_df160_1 rfl ?_
  refine x_getsF dJ0_checkIndex_df160_2 S_J0_1053 ?_ ?_
  · skip
    skip
    refine x_callS (k2 := 0) (n2 := 0) dJ0_checkIndex_df160_5 LS_J0_1059 (j_preN hj hn) rfl rfl (Nat.le_of_ble_eq_true rfl) (Nat.le_of_ble_eq_true rfl) (Nat.le_of_ble_eq_true rfl) (Nat.le_of_ble_eq_true rfl) ?_
    rintro _ _ ⟨rfl, rfl⟩
    refine x_pop dJ0_checkIndex_df160_8 rfl ?_
    refine x_return dJ0_checkIndex_df160_9 rfl ?_
    exact ⟨rfl, rfl⟩
  · skip
    skip
    refine x_callS (k2 := 0) (n2 := 0) dJ0_checkIndex_df160_5 LS_J0_1059 (j_pre hj hn) rfl rfl (Nat.le_of_ble_eq_true rfl) (Nat.le_of_ble_eq_true rfl) (Nat.le_of_ble_eq_true rfl) (Nat.le_of_ble_eq_true rfl) ?_
    rintro _ _ ⟨rfl, rfl⟩
    refine x_pop dJ0_checkIndex_df160_8 rfl ?_
    refine x_return dJ0_checkIndex_df160_9 rfl ?_
    exact ⟨rfl, rfl⟩

set_option maxHeartbeats 4000000 in
set_option maxRecDepth 100000 in
theorem j_char1 {g : xG} {nx : Nat} {sh : Nat → Nat × Nat} {P : Nat → Nat → Option Nat} {I : Nat → Nat → Int32} {i j : Nat} (hi : i < 10) (hj : j < xTl.getD i 0) : xMet g Y_J_1_charAt_3b067 2 0 0 [.ref (24 + i), .int (nI j)] (nx, sh, P, I) (fun r σ => r = some (.int (sg i j)) ∧ σ = (nx, sh, P, I)) := by
  refine xMet.of [some (.ref (24 + i)), some (.int (nI j))] (by decide +kernel) (Nat.le_of_ble_eq_true rfl) rfl ?_
  have hl6 := sl_le ⟨i, hi⟩
  have hj6 : j < 6 := Nat.lt_of_lt_of_le hj hl6
  have hl6 : xTl.getD i 0 ≤ 6 := hl6
  refine x_iload_n dJ1_charAt_3b067_0 rfl ?_
  refine x_aload_n dJ1_charAt_3b067_1 rfl ?_
  refine x_oalen dJ1_charAt_3b067_2 (xOa_T hi) ?_
  refine x_callS (k2 := 0) (n2 := 0) dJ1_charAt_3b067_3 LS_J1_9 (j_chk hj (by omega)) rfl rfl (Nat.le_of_ble_eq_true rfl) (Nat.le_of_ble_eq_true rfl) (Nat.le_of_ble_eq_true rfl) (Nat.le_of_ble_eq_true rfl) ?_
  rintro _ _ ⟨rfl, rfl⟩
  refine x_aload_n dJ1_charAt_3b067_6 rfl ?_
  refine x_iload_n dJ1_charAt_3b067_7 rfl ?_
  refine x_obaload dJ1_charAt_3b067_8 (xOa_T hi) (vi (j := j) rfl hj (by omega)) ?_
  rw [nI_clamp (by omega), show (xTx.getD i []).getD j 0 = sg i j from rfl]
  refine x_sipush (v := 255) dJ1_charAt_3b067_9 (by decide) ?_
  refine x_iand dJ1_charAt_3b067_12 ?_
  refine x_i2c dJ1_charAt_3b067_13 ?_
  rw [show ((sg i j &&& 255).toUInt32 % 65536).toInt32 = sg i j from sg_c ⟨i, hi⟩ ⟨j, hj6⟩ hj]
  refine x_ireturn dJ1_charAt_3b067_14 rfl (sg_n ⟨i, hi⟩ ⟨j, hj6⟩) ?_
  exact ⟨rfl, rfl⟩

set_option maxHeartbeats 4000000 in
set_option maxRecDepth 100000 in
theorem j_char {g : xG} {nx : Nat} {sh : Nat → Nat × Nat} {P : Nat → Nat → Option Nat} {I : Nat → Nat → Int32} {i j : Nat} (hi : i < 10) (hj : j < xTl.getD i 0) : xMet g Y_J_0_charAt_5068e 3 0 0 [.ref (8 + i), .int (nI j)] (nx, sh, P, I) (fun r σ => r = some (.int (sg i j)) ∧ σ = (nx, sh, P, I)) := by
  refine xMet.of [some (.ref (8 + i)), some (.int (nI j))] (by decide +kernel) (Nat.le_of_ble_eq_true rfl) rfl ?_
  have hl6 := sl_le ⟨i, hi⟩
  have hj6 : j < 6 := Nat.lt_of_lt_of_le hj hl6
  refine x_aload_n dJ0_charAt_5068e_0 rfl ?_
  refine x_callVs (k2 := 0) (n2 := 0) dJ0_charAt_5068e_1 LV_J0_492 (j_isLatin1 hi) rfl rfl (xOs_o hi) rfl (Nat.le_of_ble_eq_true rfl) (Nat.le_of_ble_eq_true rfl) (Nat.le_of_ble_eq_true rfl) (Nat.le_of_ble_eq_true rfl) ?_
  rintro _ _ ⟨rfl, rfl⟩
  refine x_if_eq (tgt := 16) dJ0_charAt_5068e_4 rfl (fun c4 => ?_) (fun c4 => ?_)
  · exact absurd c4 (by decide)
  · skip
    refine x_aload_n dJ0_charAt_5068e_7 rfl ?_
    refine x_sget (v := .ref (24 + i)) dJ0_charAt_5068e_8 S_J0_9 (xOs_v hi) ?_
    refine x_iload_n dJ0_charAt_5068e_11 rfl ?_
    refine x_callS (k2 := 0) (n2 := 0) dJ0_charAt_5068e_12 LS_J0_495 (j_char1 hi hj) rfl rfl (Nat.le_of_ble_eq_true rfl) (Nat.le_of_ble_eq_true rfl) (Nat.le_of_ble_eq_true rfl) (Nat.le_of_ble_eq_true rfl) ?_
    rintro _ _ ⟨rfl, rfl⟩
    refine x_ireturn dJ0_charAt_5068e_15 rfl (sg_n ⟨i, hi⟩ ⟨j, hj6⟩) ?_
    exact ⟨rfl, rfl⟩
