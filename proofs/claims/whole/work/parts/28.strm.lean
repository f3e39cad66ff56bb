/-! the literals: length, coder -/
theorem shr0 {x : Int32} : x >>> ((0 : Int32) &&& 31) = x := by
  rw [show ((0 : Int32) &&& 31) = 0 by decide]
  simp

set_option maxHeartbeats 4000000 in
set_option maxRecDepth 100000 in
theorem j_coder {g : xG} {nx : Nat} {sh : Nat → Nat × Nat} {P : Nat → Nat → Option Nat} {I : Nat → Nat → Int32} {i : Nat} (hi : i < 10) : xMet g Y_J_0_coder_7d493 0 0 0 [.ref (8 + i)] (nx, sh, P, I) (fun r σ => r = some (.int 0) ∧ σ = (nx, sh, P, I)) := by
  refine xMet.of [some (.ref (8 + i))] (by decide +kernel) (Nat.le_of_ble_eq_true rfl) rfl ?_
  refine x_getsC dJ0_coder_7d493_0 S_J0_38 ?_
  refine x_if_eq (tgt := 13) dJ0_coder_7d493_3 rfl (fun c3 => ?_) (fun c3 => ?_)
  · exact absurd c3 (by decide)
  · skip
    refine x_aload_n dJ0_coder_7d493_6 rfl ?_
    refine x_sget (v := .int 0) dJ0_coder_7d493_7 S_J0_15 (xOs_c hi) ?_
    refine x_goto (tgt := 14) dJ0_coder_7d493_10 rfl ?_
    refine x_ireturn dJ0_coder_7d493_14 rfl nb_int ?_
    exact ⟨rfl, rfl⟩

set_option maxHeartbeats 4000000 in
set_option maxRecDepth 100000 in
theorem j_isLatin1 {g : xG} {nx : Nat} {sh : Nat → Nat × Nat} {P : Nat → Nat → Option Nat} {I : Nat → Nat → Int32} {i : Nat} (hi : i < 10) : xMet g Y_J_0_isLatin1_aae02 0 0 0 [.ref (8 + i)] (nx, sh, P, I) (fun r σ => r = some (.int 1) ∧ σ = (nx, sh, P, I)) := by
  refine xMet.of [some (.ref (8 + i))] (by decide +kernel) (Nat.le_of_ble_eq_true rfl) rfl ?_
  refine x_getsC dJ0_isLatin1_aae02_0 S_J0_38 ?_
  refine x_if_eq (tgt := 17) dJ0_isLatin1_aae02_3 rfl (fun c3 => ?_) (fun c3 => ?_)
  · exact absurd c3 (by decide)
  · skip
    refine x_aload_n dJ0_isLatin1_aae02_6 rfl ?_
    refine x_sget (v := .int 0) dJ0_isLatin1_aae02_7 S_J0_15 (xOs_c hi) ?_
    refine x_if_ne (tgt := 17) dJ0_isLatin1_aae02_10 rfl (fun c10 => ?_) (fun c10 => ?_)
    · exact absurd rfl c10
    · skip
      refine x_iconst (v := 1) dJ0_isLatin1_aae02_13 (by decide) ?_
      refine x_goto (tgt := 18) dJ0_isLatin1_aae02_14 rfl ?_
      refine x_ireturn dJ0_isLatin1_aae02_18 rfl rfl ?_
      exact ⟨rfl, rfl⟩

set_option maxHeartbeats 4000000 in
set_option maxRecDepth 100000 in
theorem j_length {g : xG} {nx : Nat} {sh : Nat → Nat × Nat} {P : Nat → Nat → Option Nat} {I : Nat → Nat → Int32} {i : Nat} (hi : i < 10) : xMet g Y_J_0_length_8abf5 1 0 0 [.ref (8 + i)] (nx, sh, P, I) (fun r σ => r = some (.int (nI (xTl.getD i 0))) ∧ σ = (nx, sh, P, I)) := by
  refine xMet.of [some (.ref (8 + i))] (by decide +kernel) (Nat.le_of_ble_eq_true rfl) rfl ?_
  refine x_aload_n dJ0_length_8abf5_0 rfl ?_
  refine x_sget (v := .ref (24 + i)) dJ0_length_8abf5_1 S_J0_9 (xOs_v hi) ?_
  refine x_oalen dJ0_length_8abf5_4 (xOa_T hi) ?_
  refine x_aload_n dJ0_length_8abf5_5 rfl ?_
  refine x_callVs (k2 := 0) (n2 := 0) dJ0_length_8abf5_6 LV_J0_335 (j_coder hi) rfl rfl (xOs_o hi) rfl (Nat.le_of_ble_eq_true rfl) (Nat.le_of_ble_eq_true rfl) (Nat.le_of_ble_eq_true rfl) (Nat.le_of_ble_eq_true rfl) ?_
  rintro _ _ ⟨rfl, rfl⟩
  refine x_ishr dJ0_length_8abf5_9 ?_
  rw [shr0]
  refine x_ireturn dJ0_length_8abf5_10 rfl nb_int ?_
  exact ⟨rfl, rfl⟩
