/-! the class: one of a literal's signs, a test's signs -/
theorem ix_m1 {i : Nat} (hi : i < 10) : ∀ m k, k + m ≤ 6 → ixL i (-1) m k = -1
  | 0, _, _ => rfl
  | m + 1, k, h => by
    show (if sg i k = -1 then nI k else ixL i (-1) m (k + 1)) = -1
    rw [if_neg (sg_nm ⟨i, hi⟩ ⟨k, by omega⟩), ix_m1 hi m (k + 1) (by omega)]
theorem ix_b {i : Nat} {c : Int32} : ∀ m k, k + m ≤ 6 → ixL i c m k = -1 ∨ ∃ z, z < 6 ∧ ixL i c m k = nI z
  | 0, _, _ => Or.inl rfl
  | m + 1, k, h => by
    show (if sg i k = c then nI k else ixL i c m (k + 1)) = -1 ∨ ∃ z, z < 6 ∧ (if sg i k = c then nI k else ixL i c m (k + 1)) = nI z
    by_cases hc : sg i k = c
    · rw [if_pos hc]; exact Or.inr ⟨k, by omega, rfl⟩
    · rw [if_neg hc]; exact ix_b m (k + 1) (by omega)
theorem nI_m1 {z : Nat} (h : z < 2 ^ 31) : ¬ nI z = -1 := fun y => by have := nI_pos h; rw [y] at this; exact this (by decide)
theorem am_ix {T : Nat → Int32} {en i sp : Nat} : ∀ m k, k + m ≤ 6 → amS T en i sp m k = if ixL i (hrT T en sp) m k = -1 then (-1, sp) else (ixL i (hrT T en sp) m k, sp + 1)
  | 0, _, _ => (if_pos rfl).symm
  | m + 1, k, h => by
    show (if hrT T en sp = sg i k then (nI k, sp + 1) else amS T en i sp m (k + 1)) = if (if sg i k = hrT T en sp then nI k else ixL i (hrT T en sp) m (k + 1)) = -1 then (-1, sp) else ((if sg i k = hrT T en sp then nI k else ixL i (hrT T en sp) m (k + 1)), sp + 1)
    by_cases hc : hrT T en sp = sg i k
    · rw [if_pos hc, if_pos hc.symm, if_neg (nI_m1 (by omega))]
    · have hn : ¬ sg i k = hrT T en sp := fun y => hc y.symm
      rw [if_neg hc, if_neg hn]
      exact am_ix m (k + 1) (by omega)
theorem c16_f : ∀ z : Fin 128, ((nI z.1).toUInt32 % 65536).toInt32 = nI z.1 := by decide +kernel
theorem c16_e {c : Int32} (hc : 0 ≤ c ∧ c ≤ 127) : (c.toUInt32 % 65536).toInt32 = c := by
  obtain ⟨z, hz, rfl⟩ := i_2 (n := 128) (by decide) ⟨hc.1, Int32.lt_of_le_of_lt hc.2 (by decide)⟩
  exact c16_f ⟨z, hz⟩
set_option maxHeartbeats 4000000 in
set_option maxRecDepth 100000 in
theorem m_Reader_takeOneOf {g : xG} {nx : Nat} {sh : Nat → Nat × Nat} {P : Nat → Nat → Option Nat} {I : Nat → Nat → Int32} (hx : xFx sh P) {T : Nat → Int32} {en sp : Nat} (hr : xRr I T en sp) {i : Nat} (hi : i < 10) (hT7 : ∀ j, j < en → 0 ≤ T j ∧ T j ≤ 127) : xMet g Y_Reader_takeOneOf 4 0 0 [.ref 97, .ref (8 + i)] (nx, sh, P, I) (fun r σ => ∃ I1 : Nat → Nat → Int32, r = some (.int ((amS T en i sp (xTl.getD i 0) 0).1)) ∧ σ = (nx, sh, P, I1) ∧ xR3 I I1 ∧ xRr I1 T en ((amS T en i sp (xTl.getD i 0) 0).2)) := by
  refine xMet.of [some (.ref 97), some (.ref (8 + i)), none, none] (by decide +kernel) (Nat.le_of_ble_eq_true rfl) rfl ?_
  obtain ⟨h2, h3, hen, hse, hT⟩ := id hr
  have hl6 : xTl.getD i 0 ≤ 6 := tl_6 ⟨i, hi⟩
  have J19 : ∀ (v : Int32) (hv : v = (ixL i (hrT T en sp) (xTl.getD i 0) 0)), xX g Y_Reader_takeOneOf 4 0 0 (fun r σ => ∃ I1 : Nat → Nat → Int32, r = some (.int ((amS T en i sp (xTl.getD i 0) 0).1)) ∧ σ = (nx, sh, P, I1) ∧ xR3 I I1 ∧ xRr I1 T en ((amS T en i sp (xTl.getD i 0) 0).2)) 19 [some (.ref 97), some (.ref (8 + i)), some (.int (hrT T en sp)), none] [.int v] (nx, sh, P, I) := by
    intro v hv
    subst hv
    refine x_istore_n dX6_takeOneOf_19 (Nat.le_of_ble_eq_true rfl) ?_
    try simp only [xst, xst2, xclr, xset, xwide]
    refine x_iload_n dX6_takeOneOf_20 rfl ?_
    refine x_if_ge (tgt := 26) dX6_takeOneOf_21 rfl (fun c21 => ?_) (fun c21 => ?_)
    · have hne : ¬ (ixL i (hrT T en sp) (xTl.getD i 0) 0) = -1 := fun y => by rw [y] at c21; exact absurd c21 (by decide)
      refine x_aload_n dX6_takeOneOf_26 rfl ?_
      refine x_dup dX6_takeOneOf_27 rfl ?_
      refine y_geti dX6_takeOneOf_28 F_Reader_19 (fxo_97 hx) rfl h3 ?_
      refine x_iconst (v := 1) dX6_takeOneOf_31 (by decide) ?_
      refine x_iadd dX6_takeOneOf_32 ?_
      rw [nI_1]
      refine x_puti dX6_takeOneOf_33 F_Reader_19 T_6_3 (fxo_97 hx) rfl rfl rfl ?_
      refine x_iload_n dX6_takeOneOf_36 rfl ?_
      refine x_ireturn dX6_takeOneOf_37 rfl nb_int ?_
      have ha := am_ix (T := T) (en := en) (i := i) (sp := sp) (xTl.getD i 0) 0 (by omega)
      rw [if_neg hne] at ha
      have hlt : sp < en := Nat.not_le.mp (fun y => hne (by rw [show hrT T en sp = -1 from if_neg (by omega), ix_m1 hi (xTl.getD i 0) 0 (by omega)]))
      exact ⟨_, by rw [ha], rfl, (hr.up (sp1 := sp + 1) (by omega)).2, by rw [ha]; exact (hr.up (by omega)).1⟩
    · have hm1 : (ixL i (hrT T en sp) (xTl.getD i 0) 0) = -1 := by
        rcases ix_b (i := i) (c := hrT T en sp) (xTl.getD i 0) 0 (by omega) with h | ⟨z, hz, h⟩
        · exact h
        · exact absurd (by rw [h]; exact Int32.not_lt.mp (nI_pos (by omega))) c21
      refine x_iconst (v := (-1)) dX6_takeOneOf_24 (by decide) ?_
      refine x_ireturn dX6_takeOneOf_25 rfl nb_int ?_
      have ha := am_ix (T := T) (en := en) (i := i) (sp := sp) (xTl.getD i 0) 0 (by omega)
      rw [if_pos hm1] at ha
      exact ⟨I, by rw [ha], rfl, xR3.rf, by rw [ha]; exact hr⟩
  refine x_aload_n dX6_takeOneOf_0 rfl ?_
  refine x_callV (k2 := 0) (n2 := 0) dX6_takeOneOf_1 LV_Reader_95 (m_Reader_next hx hr) rfl rfl (fxo_97 hx) rfl (Nat.le_of_ble_eq_true rfl) (Nat.le_of_ble_eq_true rfl) (Nat.le_of_ble_eq_true rfl) (Nat.le_of_ble_eq_true rfl) ?_
  rintro _ _ ⟨rfl, rfl⟩
  refine x_istore_n dX6_takeOneOf_4 (Nat.le_of_ble_eq_true rfl) ?_
  try simp only [xst, xst2, xclr, xset, xwide]
  refine x_iload_n dX6_takeOneOf_5 rfl ?_
  refine x_if_ge (tgt := 13) dX6_takeOneOf_6 rfl (fun c6 => ?_) (fun c6 => ?_)
  · have hc : 0 ≤ hrT T en sp ∧ hrT T en sp ≤ 127 := by
      have hlt : sp < en := Nat.not_le.mp (fun y => by have h9 : hrT T en sp = -1 := if_neg (by omega); rw [h9] at c6; exact absurd c6 (by decide))
      rw [hrT_in hlt]; exact hT7 sp hlt
    refine x_aload_n dX6_takeOneOf_13 rfl ?_
    refine x_iload_n dX6_takeOneOf_14 rfl ?_
    refine x_i2c dX6_takeOneOf_15 ?_
    rw [c16_e hc]
    refine x_callVs (k2 := 0) (n2 := 0) dX6_takeOneOf_16 LV_Reader_153 (j_ix hi hc) rfl rfl (xOs_o hi) rfl (Nat.le_of_ble_eq_true rfl) (Nat.le_of_ble_eq_true rfl) (Nat.le_of_ble_eq_true rfl) (Nat.le_of_ble_eq_true rfl) ?_
    rintro _ _ ⟨rfl, rfl⟩
    exact J19 _ rfl
  · have hend : (-1 : Int32) = (ixL i (hrT T en sp) (xTl.getD i 0) 0) := by
      have hge : en ≤ sp := Nat.not_lt.mp (fun y => c6 (by rw [hrT_in y]; exact (hT7 sp y).1))
      rw [show hrT T en sp = -1 from if_neg (by omega), ix_m1 hi (xTl.getD i 0) 0 (by omega)]
    refine x_iconst (v := (-1)) dX6_takeOneOf_9 (by decide) ?_
    refine x_goto (tgt := 19) dX6_takeOneOf_10 rfl ?_
    exact J19 _ hend
