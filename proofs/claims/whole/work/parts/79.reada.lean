/-! the class: the reader, words -/
theorem sg_p : ∀ i : Fin 10, ∀ q : Fin 6, 0 ≤ sg i.1 q.1 := by decide +kernel
theorem tl_6 : ∀ i : Fin 10, xTl.getD i.1 0 ≤ 6 := by decide +kernel
theorem spL_st {T : Nat → Int32} {en i sp k : Nat} (h : (spL T en i sp false k).2 = true) : ∀ d, spL T en i sp false (k + d) = spL T en i sp false k
  | 0 => rfl
  | d + 1 => by
    have ih := spL_st h d
    show (muS T en (spL T en i sp false (k + d)).1 (spL T en i sp false (k + d)).2 (sg i (k + d)), muW T en (spL T en i sp false (k + d)).1 (spL T en i sp false (k + d)).2 (sg i (k + d))) = _
    have hm : muW T en (spL T en i sp false k).1 true (sg i (k + d)) = true := rfl
    rw [ih, h, hm]
    unfold muS
    rw [if_pos hm, ← h]
set_option maxHeartbeats 4000000 in
set_option maxRecDepth 100000 in
theorem m_Reader_takeAll {g : xG} {nx : Nat} {sh : Nat → Nat × Nat} {P : Nat → Nat → Option Nat} {I : Nat → Nat → Int32} (hx : xFx sh P) {T : Nat → Int32} {en sp : Nat} (hr : xRr I T en sp) {i : Nat} (hi : i < 10) : xMet g Y_Reader_takeAll 4 0 0 [.ref 97, .ref (8 + i)] (nx, sh, P, I) (fun r σ => ∃ I1 : Nat → Nat → Int32, r = some (.int (bv (!(spL T en i sp false (xTl.getD i 0)).2))) ∧ σ = (nx, sh, P, I1) ∧ xR3 I I1 ∧ xRr I1 T en ((spL T en i sp false (xTl.getD i 0)).1)) := by
  refine xMet.of [some (.ref 97), some (.ref (8 + i)), none] (by decide +kernel) (Nat.le_of_ble_eq_true rfl) rfl ?_
  obtain ⟨h2, h3, hen, hse, hT⟩ := id hr
  refine x_iconst (v := 0) dX6_takeAll_0 (by decide) ?_
  refine x_istore_n dX6_takeAll_1 (Nat.le_of_ble_eq_true rfl) ?_
  try simp only [xst, xst2, xclr, xset, xwide]
  have K2 : ∀ (fuel : Nat) (j : Nat) (I2 : Nat → Nat → Int32) (hj : j ≤ xTl.getD i 0) (hw : (spL T en i sp false j).2 = false) (hF : xR3 I I2) (hr2 : xRr I2 T en (spL T en i sp false j).1), xTl.getD i 0 - j < fuel → xX g Y_Reader_takeAll 4 0 0 (fun r σ => ∃ I1 : Nat → Nat → Int32, r = some (.int (bv (!(spL T en i sp false (xTl.getD i 0)).2))) ∧ σ = (nx, sh, P, I1) ∧ xR3 I I1 ∧ xRr I1 T en ((spL T en i sp false (xTl.getD i 0)).1)) 2 [some (.ref 97), some (.ref (8 + i)), some (.int (nI j))] [] (nx, sh, P, I2) := by
    intro fuel
    induction fuel with
    | zero => intro j I2 hj hw hF hr2 hm; exact absurd hm (Nat.not_lt_zero _)
    | succ fuel ih2 =>
      intro j I2 hj hw hF hr2 hm
      have h6 : xTl.getD i 0 ≤ 6 := tl_6 ⟨i, hi⟩
      refine x_iload_n dX6_takeAll_2 rfl ?_
      refine x_aload_n dX6_takeAll_3 rfl ?_
      refine x_callVs (k2 := 0) (n2 := 0) dX6_takeAll_4 LV_Reader_144 (j_length hi) rfl rfl (xOs_o hi) rfl (Nat.le_of_ble_eq_true rfl) (Nat.le_of_ble_eq_true rfl) (Nat.le_of_ble_eq_true rfl) (Nat.le_of_ble_eq_true rfl) ?_
      rintro _ _ ⟨rfl, rfl⟩
      refine x_icmp_ge (tgt := 30) dX6_takeAll_7 rfl (fun c7 => ?_) (fun c7 => ?_)
      · have hie : j = xTl.getD i 0 := cge_t (by omega) hj c7
        refine x_iconst (v := 1) dX6_takeAll_30 (by decide) ?_
        refine x_ireturn dX6_takeAll_31 rfl rfl ?_
        exact ⟨I2, by rw [← hie, hw]; rfl, rfl, hF, by rw [← hie]; exact hr2⟩
      · have him : j < xTl.getD i 0 := cge_f (by omega) hj c7
        refine x_aload_n dX6_takeAll_10 rfl ?_
        refine x_aload_n dX6_takeAll_11 rfl ?_
        refine x_iload_n dX6_takeAll_12 rfl ?_
        refine x_callVs (k2 := 0) (n2 := 0) dX6_takeAll_13 LV_Reader_149 (j_char hi him) rfl rfl (xOs_o hi) rfl (Nat.le_of_ble_eq_true rfl) (Nat.le_of_ble_eq_true rfl) (Nat.le_of_ble_eq_true rfl) (Nat.le_of_ble_eq_true rfl) ?_
        rintro _ _ ⟨rfl, rfl⟩
        refine x_callV (k2 := 0) (n2 := 0) dX6_takeAll_16 LV_Reader_52 (m_Reader_take (I := I2) (c := sg i j) hx hr2 (sg_p ⟨i, hi⟩ ⟨j, by omega⟩)) rfl rfl (fxo_97 hx) rfl (Nat.le_of_ble_eq_true rfl) (Nat.le_of_ble_eq_true rfl) (Nat.le_of_ble_eq_true rfl) (Nat.le_of_ble_eq_true rfl) ?_
        rintro _ _ ⟨I3, rfl, rfl, hF3, hr3⟩
        refine x_if_ne (tgt := 24) dX6_takeAll_19 rfl (fun c19 => ?_) (fun c19 => ?_)
        · have hm : (spL T en i sp false (j + 1)).2 = false := by
            have h9 := bv_1 c19
            show muW T en _ (spL T en i sp false j).2 _ = false
            rw [hw]
            cases hz : muW T en (spL T en i sp false j).1 false (sg i j) with
            | false => rfl
            | true => rw [hz] at h9; cases h9
          refine x_iinc (v := (nI (j + 1))) dX6_takeAll_24 rfl (nI_1 _) (Nat.le_of_ble_eq_true rfl) ?_
          try simp only [xst, xst2, xclr, xset, xwide]
          refine x_goto (tgt := 2) dX6_takeAll_27 rfl ?_
          exact ih2 (j + 1) _ (by omega) hm (hF.tr hF3) (by show xRr I3 T en (muS T en _ (spL T en i sp false j).2 _); rw [hw]; exact hr3) (by omega)
        · have hm : (spL T en i sp false (j + 1)).2 = true := by
            have h9 := bv_0 c19
            show muW T en _ (spL T en i sp false j).2 _ = true
            rw [hw]
            cases hz : muW T en (spL T en i sp false j).1 false (sg i j) with
            | true => rfl
            | false => rw [hz] at h9; cases h9
          have hst := spL_st hm (xTl.getD i 0 - (j + 1))
          rw [show j + 1 + (xTl.getD i 0 - (j + 1)) = xTl.getD i 0 by omega] at hst
          refine x_iconst (v := 0) dX6_takeAll_22 (by decide) ?_
          refine x_ireturn dX6_takeAll_23 rfl rfl ?_
          exact ⟨I3, by rw [hst, hm]; rfl, rfl, hF.tr hF3, by rw [hst]; show xRr I3 T en (muS T en _ (spL T en i sp false j).2 _); rw [hw]; exact hr3⟩
  exact K2 _ 0 I (Nat.zero_le _) rfl xR3.rf hr (Nat.lt_succ_self _)
