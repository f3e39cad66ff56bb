/-! Arrays.copyOf of ints, to fewer -/
set_option maxHeartbeats 4000000 in
set_option maxRecDepth 100000 in
theorem m_copyOf {g : xG} {nx : Nat} {sh : Nat → Nat × Nat} {P : Nat → Nat → Option Nat} {I : Nat → Nat → Int32} {a la m : Nat} (ha : sh a = (12, la)) (hm : m < la) (hla : la ≤ 1000) (hne : a ≠ nx) : xMet g Y_J_7_copyOf_59c91 1 1 m [.ref a, .int (nI m)] (nx, sh, P, I) (fun r σ => r = some (.ref nx) ∧ σ = (nx + 1, va_up sh nx (12, m), va_up P nx (fun _ => none), va_up (va_up I nx (fun _ => 0)) nx (xTk (va_up I nx (fun _ => 0) a) (va_up I nx (fun _ => 0) nx) m))) := by
  refine xMet.of [some (.ref a), some (.int (nI m)), none] (by decide +kernel) (Nat.le_of_ble_eq_true rfl) rfl ?_
  have ha2 : va_up sh nx (12, m) a = (12, la) := by unfold va_up; rw [if_neg hne]; exact ha
  have hnx : va_up sh nx (12, m) nx = (12, m) := by unfold va_up; rw [if_pos rfl]
  refine x_iload_n dJ7_copyOf_59c91_0 rfl ?_
  refine x_aload_n dJ7_copyOf_59c91_1 rfl ?_
  refine y_alen dJ7_copyOf_59c91_2 ha (by decide) ?_
  refine x_icmp_ne (tgt := 14) dJ7_copyOf_59c91_3 rfl (fun c3 => ?_) (fun c3 => ?_)
  · skip
    refine x_iload_n dJ7_copyOf_59c91_14 rfl ?_
    refine y_newI (k2 := 0) (n2 := 0) (nx1 := nx + 1) (len := m) dJ7_copyOf_59c91_15 rfl rfl (by omega) (Nat.le_of_ble_eq_true rfl) (Nat.le_refl _) ?_
    refine x_astore_n dJ7_copyOf_59c91_17 (Nat.le_of_ble_eq_true rfl) ?_
    try simp only [xst, xst2, xclr, xset, xwide]
    refine x_aload_n dJ7_copyOf_59c91_18 rfl ?_
    refine x_iconst (v := 0) dJ7_copyOf_59c91_19 (by decide) ?_
    refine x_aload_n dJ7_copyOf_59c91_20 rfl ?_
    refine x_iconst (v := 0) dJ7_copyOf_59c91_21 (by decide) ?_
    refine x_aload_n dJ7_copyOf_59c91_22 rfl ?_
    refine y_alen dJ7_copyOf_59c91_23 ha2 (by decide) ?_
    refine x_iload_n dJ7_copyOf_59c91_24 rfl ?_
    refine x_callS (k2 := 0) (n2 := 0) dJ7_copyOf_59c91_25 LS_J7_304 m_min rfl rfl (Nat.le_of_ble_eq_true rfl) (Nat.le_of_ble_eq_true rfl) (Nat.le_of_ble_eq_true rfl) (Nat.le_of_ble_eq_true rfl) ?_
    rintro _ _ ⟨rfl, rfl⟩
    rw [if_neg (fun y => by have := (nI_leI (by omega) (by omega)).mp y; omega)]
    refine y_copy0 dJ7_copyOf_59c91_28 CP_J7_150 ha2 hnx (m := m) (by omega) (by omega) (Nat.le_refl _) (Nat.le_of_ble_eq_true rfl) (Nat.le_of_ble_eq_true rfl) ?_
    refine x_aload_n dJ7_copyOf_59c91_31 rfl ?_
    refine x_areturn dJ7_copyOf_59c91_32 rfl (Or.inr ⟨_, rfl⟩) ?_
    exact ⟨rfl, rfl⟩
  · exact absurd c3 (fun y => by have := (nI_eqI (by omega) (by omega)).mp y; omega)
