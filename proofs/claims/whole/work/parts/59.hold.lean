/-! the class: which to hold -/
def hqT (W : Nat → Nat → Nat) (i j : Nat) (p : Int32 × Int32) : Int32 × Int32 := if p.1 = -5 ∨ nI (W i j) < p.2 then (nI (10 * i + j), nI (W i j)) else p
def hqJ (W : Nat → Nat → Nat) (i : Nat) (p : Int32 × Int32) : Nat → Int32 × Int32
  | 0 => p
  | k + 1 => hqT W i (i + 1 + k) (hqJ W i p k)
def hqI (W : Nat → Nat → Nat) (n : Nat) : Nat → Int32 × Int32
  | 0 => (-5, -5)
  | i + 1 => hqJ W i (hqI W n i) (n - (i + 1))
theorem nI_np {l : Nat} (h : ¬ nI l ≤ 0) : 0 < l := by
  rcases Nat.eq_zero_or_pos l with z | z
  · exact absurd (by rw [z]; decide) h
  · exact z
theorem hqT_i {W : Nat → Nat → Nat} {i j : Nat} {p : Int32 × Int32} {b l : Int32} (h1 : b = p.1) (h2 : b = -5 ∨ l = p.2) : (b = -5 ∨ nI (W i j) < l) ↔ (p.1 = -5 ∨ nI (W i j) < p.2) := by
  rw [← h1]
  rcases h2 with h | h
  · exact ⟨fun _ => Or.inl h, fun _ => Or.inl h⟩
  · rw [h]
set_option maxHeartbeats 4000000 in
set_option maxRecDepth 100000 in
theorem m_Guesses_outcomes {g : xG} {nx : Nat} {sh : Nat → Nat × Nat} {P : Nat → Nat → Option Nat} {I : Nat → Nat → Int32} (hx : xFx sh P) {a b q : Nat} {z v : Int32} (ha : a < 4) (hb : b < 4) (hq : q < 3) (hz : z + 1 = nI q) (hv : I 108 ((a * 4 + b) * 3 + q) = v) : xMet g Y_Guesses_outcomes 1 0 0 [.ref 100, .int (nI a), .int (nI b), .int z] (nx, sh, P, I) (fun r σ => r = some (.int v) ∧ σ = (nx, sh, P, I)) := by
  refine xMet.of [some (.ref 100), some (.int (nI a)), some (.int (nI b)), some (.int z), none] (by decide +kernel) (Nat.le_of_ble_eq_true rfl) rfl ?_
  refine x_iload_n dX3_outcomes_0 rfl ?_
  refine x_iload_n dX3_outcomes_1 rfl ?_
  refine x_iload_n dX3_outcomes_2 rfl ?_
  refine x_callS (k2 := 0) (n2 := 0) dX3_outcomes_3 LS_Guesses_118 m_Guesses_outcome rfl rfl (Nat.le_of_ble_eq_true rfl) (Nat.le_of_ble_eq_true rfl) (Nat.le_of_ble_eq_true rfl) (Nat.le_of_ble_eq_true rfl) ?_
  rintro _ _ ⟨rfl, rfl⟩
  rw [show (nI a * 4 + nI b) * 3 + z + 1 = nI ((a * 4 + b) * 3 + q) from by rw [Int32.add_assoc, hz, show nI a * (4 : Int32) = nI (a * 4) from pk_mul a 4, nI_add, show nI (a * 4 + b) * (3 : Int32) = nI ((a * 4 + b) * 3) from pk_mul _ 3, nI_add]]
  refine x_istore dX3_outcomes_6 (Nat.le_of_ble_eq_true rfl) ?_
  try simp only [xst, xst2, xclr, xset, xwide]
  refine x_iload dX3_outcomes_8 rfl ?_
  refine x_if_lt (tgt := 33) dX3_outcomes_10 rfl (fun c10 => ?_) (fun c10 => ?_)
  · exact absurd c10 (nI_pos (by omega))
  · refine x_iload dX3_outcomes_13 rfl ?_
    refine x_aload_n dX3_outcomes_15 rfl ?_
    refine y_getr dX3_outcomes_16 F_Guesses_34 (fxo_100 hx) rfl (fxp_100_6 hx) ?_
    refine y_alen dX3_outcomes_19 (fxk_108 hx) (by decide) ?_
    refine x_icmp_ge (tgt := 33) dX3_outcomes_20 rfl (fun c20 => ?_) (fun c20 => ?_)
    · exact absurd ((nI_leI (by decide) (by omega)).mp c20) (by omega)
    · refine x_aload_n dX3_outcomes_23 rfl ?_
      refine y_getr dX3_outcomes_24 F_Guesses_34 (fxo_100 hx) rfl (fxp_100_6 hx) ?_
      refine x_iload dX3_outcomes_27 rfl ?_
      refine y_iaload dX3_outcomes_29 (fxk_108 hx) (vi rfl (show (a * 4 + b) * 3 + q < 48 by omega) (by decide)) (rI (j := (a * 4 + b) * 3 + q) (ci rfl (by omega)) hv) ?_
      refine x_goto (tgt := 34) dX3_outcomes_30 rfl ?_
      refine x_ireturn dX3_outcomes_34 rfl nb_int ?_
      exact ⟨rfl, rfl⟩

set_option maxHeartbeats 4000000 in
set_option maxRecDepth 100000 in
theorem m_Guesses_worstOf {g : xG} {nx : Nat} {sh : Nat → Nat × Nat} {P : Nat → Nat → Option Nat} {I : Nat → Nat → Int32} (hx : xFx sh P) {a b : Nat} (ha : a < 4) (hb : b < 4) {x0 x1 x2 : Nat} (h0 : I 108 ((a * 4 + b) * 3 + 0) = nI x0) (h1 : I 108 ((a * 4 + b) * 3 + 1) = nI x1) (h2 : I 108 ((a * 4 + b) * 3 + 2) = nI x2) (b0 : x0 ≤ 10000) (b1 : x1 ≤ 10000) (b2 : x2 ≤ 10000) : xMet g Y_Guesses_worstOf 2 0 0 [.ref 100, .int (nI a), .int (nI b)] (nx, sh, P, I) (fun r σ => r = some (.int (nI (max x1 (max x0 x2)))) ∧ σ = (nx, sh, P, I)) := by
  refine xMet.of [some (.ref 100), some (.int (nI a)), some (.int (nI b))] (by decide +kernel) (Nat.le_of_ble_eq_true rfl) rfl ?_
  refine x_aload_n dX3_worstOf_0 rfl ?_
  refine x_iload_n dX3_worstOf_1 rfl ?_
  refine x_iload_n dX3_worstOf_2 rfl ?_
  refine x_iconst (v := 0) dX3_worstOf_3 (by decide) ?_
  refine x_callV (k2 := 0) (n2 := 0) dX3_worstOf_4 LV_Guesses_133 (m_Guesses_outcomes hx ha hb (q := 1) (by decide) (by decide) h1) rfl rfl (fxo_100 hx) rfl (Nat.le_of_ble_eq_true rfl) (Nat.le_of_ble_eq_true rfl) (Nat.le_of_ble_eq_true rfl) (Nat.le_of_ble_eq_true rfl) ?_
  rintro _ _ ⟨rfl, rfl⟩
  refine x_aload_n dX3_worstOf_7 rfl ?_
  refine x_iload_n dX3_worstOf_8 rfl ?_
  refine x_iload_n dX3_worstOf_9 rfl ?_
  refine x_iconst (v := (-1)) dX3_worstOf_10 (by decide) ?_
  refine x_callV (k2 := 0) (n2 := 0) dX3_worstOf_11 LV_Guesses_133 (m_Guesses_outcomes hx ha hb (q := 0) (by decide) (by decide) h0) rfl rfl (fxo_100 hx) rfl (Nat.le_of_ble_eq_true rfl) (Nat.le_of_ble_eq_true rfl) (Nat.le_of_ble_eq_true rfl) (Nat.le_of_ble_eq_true rfl) ?_
  rintro _ _ ⟨rfl, rfl⟩
  refine x_aload_n dX3_worstOf_14 rfl ?_
  refine x_iload_n dX3_worstOf_15 rfl ?_
  refine x_iload_n dX3_worstOf_16 rfl ?_
  refine x_iconst (v := 1) dX3_worstOf_17 (by decide) ?_
  refine x_callV (k2 := 0) (n2 := 0) dX3_worstOf_18 LV_Guesses_133 (m_Guesses_outcomes hx ha hb (q := 2) (by decide) (by decide) h2) rfl rfl (fxo_100 hx) rfl (Nat.le_of_ble_eq_true rfl) (Nat.le_of_ble_eq_true rfl) (Nat.le_of_ble_eq_true rfl) (Nat.le_of_ble_eq_true rfl) ?_
  rintro _ _ ⟨rfl, rfl⟩
  refine x_callS (k2 := 0) (n2 := 0) dX3_worstOf_21 LS_Guesses_130 m_max rfl rfl (Nat.le_of_ble_eq_true rfl) (Nat.le_of_ble_eq_true rfl) (Nat.le_of_ble_eq_true rfl) (Nat.le_of_ble_eq_true rfl) ?_
  rintro _ _ ⟨rfl, rfl⟩
  rw [mxI (by omega) (by omega)]
  refine x_callS (k2 := 0) (n2 := 0) dX3_worstOf_24 LS_Guesses_130 m_max rfl rfl (Nat.le_of_ble_eq_true rfl) (Nat.le_of_ble_eq_true rfl) (Nat.le_of_ble_eq_true rfl) (Nat.le_of_ble_eq_true rfl) ?_
  rintro _ _ ⟨rfl, rfl⟩
  rw [mxI (by omega) (by omega)]
  refine x_ireturn dX3_worstOf_27 rfl nb_int ?_
  exact ⟨rfl, rfl⟩

set_option maxHeartbeats 4000000 in
set_option maxRecDepth 100000 in
theorem m_Guesses_areAlike {g : xG} {nx : Nat} {sh : Nat → Nat × Nat} {P : Nat → Nat → Option Nat} {I : Nat → Nat → Int32} (hx : xFx sh P) {a b l x1 : Nat} (ha : a < 4) (hb : b < 4) (hl : I 100 4 = nI l) (hl6 : l ≤ 10000) (hx6 : x1 ≤ 10000) (h1 : I 108 ((min a b * 4 + max a b) * 3 + 1) = nI x1) : xMet g Y_Guesses_areAlike 2 0 0 [.ref 100, .int (nI a), .int (nI b)] (nx, sh, P, I) (fun r σ => r = some (.int (if 0 < l ∧ x1 = l then 1 else 0)) ∧ σ = (nx, sh, P, I)) := by
  refine xMet.of [some (.ref 100), some (.int (nI a)), some (.int (nI b))] (by decide +kernel) (Nat.le_of_ble_eq_true rfl) rfl ?_
  refine x_aload_n dX3_areAlike_0 rfl ?_
  refine y_geti dX3_areAlike_1 F_Guesses_27 (fxo_100 hx) rfl hl ?_
  refine x_if_le (tgt := 33) dX3_areAlike_4 rfl (fun c4 => ?_) (fun c4 => ?_)
  · have hl0 : l = 0 := (nI_le0 (by omega)).mp c4
    refine x_iconst (v := 0) dX3_areAlike_33 (by decide) ?_
    refine x_ireturn dX3_areAlike_34 rfl rfl ?_
    exact ⟨by rw [if_neg (fun y => by omega)], rfl⟩
  · have h0l : 0 < l := by rcases Nat.eq_zero_or_pos l with z | z; exact absurd (by rw [z]; decide) c4; exact z
    refine x_aload_n dX3_areAlike_7 rfl ?_
    refine x_iload_n dX3_areAlike_8 rfl ?_
    refine x_iload_n dX3_areAlike_9 rfl ?_
    refine x_callS (k2 := 0) (n2 := 0) dX3_areAlike_10 LS_Guesses_125 m_min rfl rfl (Nat.le_of_ble_eq_true rfl) (Nat.le_of_ble_eq_true rfl) (Nat.le_of_ble_eq_true rfl) (Nat.le_of_ble_eq_true rfl) ?_
    rintro _ _ ⟨rfl, rfl⟩
    rw [mnI (by omega) (by omega)]
    refine x_iload_n dX3_areAlike_13 rfl ?_
    refine x_iload_n dX3_areAlike_14 rfl ?_
    refine x_callS (k2 := 0) (n2 := 0) dX3_areAlike_15 LS_Guesses_130 m_max rfl rfl (Nat.le_of_ble_eq_true rfl) (Nat.le_of_ble_eq_true rfl) (Nat.le_of_ble_eq_true rfl) (Nat.le_of_ble_eq_true rfl) ?_
    rintro _ _ ⟨rfl, rfl⟩
    rw [mxI (by omega) (by omega)]
    refine x_iconst (v := 0) dX3_areAlike_18 (by decide) ?_
    refine x_callV (k2 := 0) (n2 := 0) dX3_areAlike_19 LV_Guesses_133 (m_Guesses_outcomes hx (a := min a b) (b := max a b) (by omega) (by omega) (q := 1) (by decide) (by decide) h1) rfl rfl (fxo_100 hx) rfl (Nat.le_of_ble_eq_true rfl) (Nat.le_of_ble_eq_true rfl) (Nat.le_of_ble_eq_true rfl) (Nat.le_of_ble_eq_true rfl) ?_
    rintro _ _ ⟨rfl, rfl⟩
    refine x_aload_n dX3_areAlike_22 rfl ?_
    refine y_geti dX3_areAlike_23 F_Guesses_27 (fxo_100 hx) rfl hl ?_
    refine x_icmp_ne (tgt := 33) dX3_areAlike_26 rfl (fun c26 => ?_) (fun c26 => ?_)
    · skip
      refine x_iconst (v := 0) dX3_areAlike_33 (by decide) ?_
      refine x_ireturn dX3_areAlike_34 rfl rfl ?_
      exact ⟨by rw [if_neg (fun y => c26 (by rw [y.2]))], rfl⟩
    · skip
      refine x_iconst (v := 1) dX3_areAlike_29 (by decide) ?_
      refine x_goto (tgt := 34) dX3_areAlike_30 rfl ?_
      refine x_ireturn dX3_areAlike_34 rfl rfl ?_
      exact ⟨by rw [if_pos ⟨h0l, (nI_eqI (by omega) (by omega)).mp c26⟩], rfl⟩

set_option maxHeartbeats 4000000 in
set_option maxRecDepth 100000 in
theorem m_Guesses_pairToHold {g : xG} {nx : Nat} {sh : Nat → Nat × Nat} {P : Nat → Nat → Option Nat} {I : Nat → Nat → Int32} (hx : xFx sh P) {s : Nat → Int32} (hW : xWN nx sh P I s) (hR : RI s) {W : Nat → Nat → Nat} {l : Nat} (hl : I 100 4 = nI l) (hl6 : l ≤ 10000) (hWW : ∀ a b, a < b → b < 4 → ∃ x0 x1 x2, I 108 ((a * 4 + b) * 3 + 0) = nI x0 ∧ I 108 ((a * 4 + b) * 3 + 1) = nI x1 ∧ I 108 ((a * 4 + b) * 3 + 2) = nI x2 ∧ x0 ≤ 10000 ∧ x1 ≤ 10000 ∧ x2 ≤ 10000 ∧ W a b = max x1 (max x0 x2)) : xMet g Y_Guesses_pairToHold 3 0 0 [.ref 100] (nx, sh, P, I) (fun r σ => r = some (.int (hqI W (if 0 < l then cN s 0 else 0) (if 0 < l then cN s 0 else 0)).1) ∧ σ = (nx, sh, P, I)) := by
  refine xMet.of [some (.ref 100), none, none, none, none, none, none] (by decide +kernel) (Nat.le_of_ble_eq_true rfl) rfl ?_
  obtain ⟨⟨tTape, tCoins, tWares, tBuys, tSlates, tPlans, tBooked⟩, ⟨cTape, cCoins, cWares, cBuys, cSlates, cPlans, cBooked⟩, hW7, hW9, hL⟩ := id hW
  obtain ⟨⟨n0, b0, e0⟩, ⟨n1, b1, e1⟩, ⟨n2, b2, e2⟩, ⟨n3, b3, e3⟩, ⟨n4, b4, e4⟩, ⟨n5, b5, e5⟩, ⟨n6, b6, e6⟩, ⟨n7, b7, e7⟩, ⟨n9, b9, e9⟩⟩ := hR.k
  have k7 : cN s 7 = n7 := cN_of e7 (by omega)
  rw [k7] at tTape cTape
  have k0 : cN s 0 = n0 := cN_of e0 (by omega)
  rw [k0] at tCoins cCoins
  have k1 : cN s 1 = n1 := cN_of e1 (by omega)
  rw [k1] at tWares cWares
  have k3 : cN s 3 = n3 := cN_of e3 (by omega)
  rw [k3] at tBuys cBuys
  have k4 : cN s 4 = n4 := cN_of e4 (by omega)
  rw [k4] at tSlates cSlates
  have k5 : cN s 5 = n5 := cN_of e5 (by omega)
  rw [k5] at tPlans cPlans
  have k6 : cN s 6 = n6 := cN_of e6 (by omega)
  rw [k6] at tBooked cBooked
  refine x_bipush (v := (-5)) dX3_pairToHold_0 (by decide) ?_
  refine x_istore_n dX3_pairToHold_2 (Nat.le_of_ble_eq_true rfl) ?_
  try simp only [xst, xst2, xclr, xset, xwide]
  refine x_aload_n dX3_pairToHold_3 rfl ?_
  refine y_geti dX3_pairToHold_4 F_Guesses_27 (fxo_100 hx) rfl hl ?_
  refine x_istore_n dX3_pairToHold_7 (Nat.le_of_ble_eq_true rfl) ?_
  try simp only [xst, xst2, xclr, xset, xwide]
  have J29 : ∀ (x : Int32) (hxv : x = nI (if 0 < l then n0 else 0)), xX g Y_Guesses_pairToHold 3 0 0 (fun r σ => r = some (.int (hqI W (if 0 < l then cN s 0 else 0) (if 0 < l then cN s 0 else 0)).1) ∧ σ = (nx, sh, P, I)) 29 [some (.ref 100), some (.int (-5)), some (.int (nI l)), none, none, none, none] [.int x] (nx, sh, P, I) := by
    intro x hxv
    obtain ⟨cn, hcn⟩ : ∃ cn, cn = (if 0 < l then n0 else 0) := ⟨_, rfl⟩
    have hc4 : cn ≤ 4 := by rw [hcn]; split <;> omega
    rw [hxv, ← hcn]
    refine x_istore_n dX3_pairToHold_29 (Nat.le_of_ble_eq_true rfl) ?_
    try simp only [xst, xst2, xclr, xset, xwide]
    refine x_iconst (v := 0) dX3_pairToHold_30 (by decide) ?_
    refine x_istore dX3_pairToHold_31 (Nat.le_of_ble_eq_true rfl) ?_
    try simp only [xst, xst2, xclr, xset, xwide]
    have K33 : ∀ (fuel : Nat) (i : Nat) (b lv : Int32) (v5 v6 : Option Value) (hi : i ≤ cn) (hb : b = (hqI W cn i).1) (hlv : b = -5 ∨ lv = (hqI W cn i).2), cn - i < fuel → xX g Y_Guesses_pairToHold 3 0 0 (fun r σ => r = some (.int (hqI W (if 0 < l then cN s 0 else 0) (if 0 < l then cN s 0 else 0)).1) ∧ σ = (nx, sh, P, I)) 33 [some (.ref 100), some (.int b), some (.int lv), some (.int (nI cn)), some (.int (nI i)), v5, v6] [] (nx, sh, P, I) := by
      intro fuel
      induction fuel with
      | zero => intro i b lv v5 v6 hi hb hlv hm; exact absurd hm (Nat.not_lt_zero _)
      | succ fuel ih33 =>
        intro i b lv v5 v6 hi hb hlv hm
        refine x_iload dX3_pairToHold_33 rfl ?_
        refine x_iload_n dX3_pairToHold_35 rfl ?_
        refine x_icmp_ge (tgt := 97) dX3_pairToHold_36 rfl (fun c36 => ?_) (fun c36 => ?_)
        · have hie : i = cn := cge_t (by omega) hi c36
          refine x_iload_n dX3_pairToHold_97 rfl ?_
          refine x_ireturn dX3_pairToHold_98 rfl nb_int ?_
          exact ⟨by rw [hb, hie, hcn, k0], rfl⟩
        · have him : i < cn := cge_f (by omega) hi c36
          refine x_iload dX3_pairToHold_39 rfl ?_
          refine x_iconst (v := 1) dX3_pairToHold_41 (by decide) ?_
          refine x_iadd dX3_pairToHold_42 ?_
          rw [nI_1]
          refine x_istore dX3_pairToHold_43 (Nat.le_of_ble_eq_true rfl) ?_
          try simp only [xst, xst2, xclr, xset, xwide]
          have K45 : ∀ (fuel : Nat) (j : Nat) (b2 lv2 : Int32) (v6 : Option Value) (hj1 : i + 1 ≤ j) (hj : j ≤ cn) (hb2 : b2 = (hqJ W i (hqI W cn i) (j - (i + 1))).1) (hlv2 : b2 = -5 ∨ lv2 = (hqJ W i (hqI W cn i) (j - (i + 1))).2), cn - j < fuel → xX g Y_Guesses_pairToHold 3 0 0 (fun r σ => r = some (.int (hqI W (if 0 < l then cN s 0 else 0) (if 0 < l then cN s 0 else 0)).1) ∧ σ = (nx, sh, P, I)) 45 [some (.ref 100), some (.int b2), some (.int lv2), some (.int (nI cn)), some (.int (nI i)), some (.int (nI j)), v6] [] (nx, sh, P, I) := by
            intro fuel
            induction fuel with
            | zero => intro j b2 lv2 v6 hj1 hj hb2 hlv2 hm; exact absurd hm (Nat.not_lt_zero _)
            | succ fuel ih45 =>
              intro j b2 lv2 v6 hj1 hj hb2 hlv2 hm
              refine x_iload dX3_pairToHold_45 rfl ?_
              refine x_iload_n dX3_pairToHold_47 rfl ?_
              refine x_icmp_ge (tgt := 91) dX3_pairToHold_48 rfl (fun c48 => ?_) (fun c48 => ?_)
              · have hjn : j = cn := cge_t (by omega) hj c48
                refine x_iinc (v := (nI (i + 1))) dX3_pairToHold_91 rfl (nI_1 _) (Nat.le_of_ble_eq_true rfl) ?_
                try simp only [xst, xst2, xclr, xset, xwide]
                refine x_goto (tgt := 33) dX3_pairToHold_94 rfl ?_
                exact ih33 (i + 1) _ _ _ _ (by omega) (by rw [hb2]; show (hqJ W i (hqI W cn i) (j - (i + 1))).1 = (hqJ W i (hqI W cn i) (cn - (i + 1))).1; rw [hjn]) (by have h9 := hlv2; rw [hjn] at h9; exact h9) (by omega)
              · have hjm : j < cn := cge_f (by omega) hj c48
                obtain ⟨x0, x1, x2, y0, y1, y2, z0, z1, z2, hWe⟩ := hWW i j (by omega) (by omega)
                have hun : hqJ W i (hqI W cn i) (j + 1 - (i + 1)) = hqT W i j (hqJ W i (hqI W cn i) (j - (i + 1))) := by rw [show j + 1 - (i + 1) = (j - (i + 1)) + 1 by omega]; show hqT W i (i + 1 + (j - (i + 1))) _ = _; rw [show i + 1 + (j - (i + 1)) = j by omega]
                refine x_aload_n dX3_pairToHold_51 rfl ?_
                refine x_iload dX3_pairToHold_52 rfl ?_
                refine x_iload dX3_pairToHold_54 rfl ?_
                refine x_callV (k2 := 0) (n2 := 0) dX3_pairToHold_56 LV_Guesses_136 (m_Guesses_worstOf hx (a := i) (b := j) (by omega) (by omega) y0 y1 y2 z0 z1 z2) rfl rfl (fxo_100 hx) rfl (Nat.le_of_ble_eq_true rfl) (Nat.le_of_ble_eq_true rfl) (Nat.le_of_ble_eq_true rfl) (Nat.le_of_ble_eq_true rfl) ?_
                rintro _ _ ⟨rfl, rfl⟩
                rw [← hWe]
                refine x_istore dX3_pairToHold_59 (Nat.le_of_ble_eq_true rfl) ?_
                try simp only [xst, xst2, xclr, xset, xwide]
                refine x_iload_n dX3_pairToHold_61 rfl ?_
                refine x_bipush (v := (-5)) dX3_pairToHold_62 (by decide) ?_
                refine x_icmp_eq (tgt := 73) dX3_pairToHold_64 rfl (fun c64 => ?_) (fun c64 => ?_)
                · refine x_iload dX3_pairToHold_73 rfl ?_
                  refine x_bipush (v := 10) dX3_pairToHold_75 (by decide) ?_
                  refine x_imul dX3_pairToHold_77 ?_
                  refine x_iload dX3_pairToHold_78 rfl ?_
                  refine x_iadd dX3_pairToHold_80 ?_
                  rw [show nI i * (10 : Int32) + nI j = nI (10 * i + j) from by rw [show nI i * (10 : Int32) = nI (i * 10) from pk_mul i 10, nI_add, Nat.mul_comm]]
                  refine x_istore_n dX3_pairToHold_81 (Nat.le_of_ble_eq_true rfl) ?_
                  try simp only [xst, xst2, xclr, xset, xwide]
                  refine x_iload dX3_pairToHold_82 rfl ?_
                  refine x_istore_n dX3_pairToHold_84 (Nat.le_of_ble_eq_true rfl) ?_
                  try simp only [xst, xst2, xclr, xset, xwide]
                  refine x_iinc (v := (nI (j + 1))) dX3_pairToHold_85 rfl (nI_1 _) (Nat.le_of_ble_eq_true rfl) ?_
                  try simp only [xst, xst2, xclr, xset, xwide]
                  refine x_goto (tgt := 45) dX3_pairToHold_88 rfl ?_
                  first
                  | exact ih45 (j + 1) _ _ _ (by omega) (by omega) (by rw [hun, hqT, if_pos ((hqT_i hb2 hlv2).mp (by first | exact Or.inl c64 | exact Or.inr (Int32.not_le.mp c70)))]) (Or.inr (by rw [hun, hqT, if_pos ((hqT_i hb2 hlv2).mp (by first | exact Or.inl c64 | exact Or.inr (Int32.not_le.mp c70)))])) (by omega)
                  | exact ih45 (j + 1) _ _ _ (by omega) (by omega) (by rw [hun, hqT, if_neg (fun y => ((hqT_i hb2 hlv2).mpr y).elim c64 (Int32.not_lt.mpr c70))]; exact hb2) (by rw [hun, hqT, if_neg (fun y => ((hqT_i hb2 hlv2).mpr y).elim c64 (Int32.not_lt.mpr c70))]; exact hlv2) (by omega)
                · refine x_iload dX3_pairToHold_67 rfl ?_
                  refine x_iload_n dX3_pairToHold_69 rfl ?_
                  refine x_icmp_ge (tgt := 85) dX3_pairToHold_70 rfl (fun c70 => ?_) (fun c70 => ?_)
                  · refine x_iinc (v := (nI (j + 1))) dX3_pairToHold_85 rfl (nI_1 _) (Nat.le_of_ble_eq_true rfl) ?_
                    try simp only [xst, xst2, xclr, xset, xwide]
                    refine x_goto (tgt := 45) dX3_pairToHold_88 rfl ?_
                    first
                    | exact ih45 (j + 1) _ _ _ (by omega) (by omega) (by rw [hun, hqT, if_pos ((hqT_i hb2 hlv2).mp (by first | exact Or.inl c64 | exact Or.inr (Int32.not_le.mp c70)))]) (Or.inr (by rw [hun, hqT, if_pos ((hqT_i hb2 hlv2).mp (by first | exact Or.inl c64 | exact Or.inr (Int32.not_le.mp c70)))])) (by omega)
                    | exact ih45 (j + 1) _ _ _ (by omega) (by omega) (by rw [hun, hqT, if_neg (fun y => ((hqT_i hb2 hlv2).mpr y).elim c64 (Int32.not_lt.mpr c70))]; exact hb2) (by rw [hun, hqT, if_neg (fun y => ((hqT_i hb2 hlv2).mpr y).elim c64 (Int32.not_lt.mpr c70))]; exact hlv2) (by omega)
                  · refine x_iload dX3_pairToHold_73 rfl ?_
                    refine x_bipush (v := 10) dX3_pairToHold_75 (by decide) ?_
                    refine x_imul dX3_pairToHold_77 ?_
                    refine x_iload dX3_pairToHold_78 rfl ?_
                    refine x_iadd dX3_pairToHold_80 ?_
                    rw [show nI i * (10 : Int32) + nI j = nI (10 * i + j) from by rw [show nI i * (10 : Int32) = nI (i * 10) from pk_mul i 10, nI_add, Nat.mul_comm]]
                    refine x_istore_n dX3_pairToHold_81 (Nat.le_of_ble_eq_true rfl) ?_
                    try simp only [xst, xst2, xclr, xset, xwide]
                    refine x_iload dX3_pairToHold_82 rfl ?_
                    refine x_istore_n dX3_pairToHold_84 (Nat.le_of_ble_eq_true rfl) ?_
                    try simp only [xst, xst2, xclr, xset, xwide]
                    refine x_iinc (v := (nI (j + 1))) dX3_pairToHold_85 rfl (nI_1 _) (Nat.le_of_ble_eq_true rfl) ?_
                    try simp only [xst, xst2, xclr, xset, xwide]
                    refine x_goto (tgt := 45) dX3_pairToHold_88 rfl ?_
                    first
                    | exact ih45 (j + 1) _ _ _ (by omega) (by omega) (by rw [hun, hqT, if_pos ((hqT_i hb2 hlv2).mp (by first | exact Or.inl c64 | exact Or.inr (Int32.not_le.mp c70)))]) (Or.inr (by rw [hun, hqT, if_pos ((hqT_i hb2 hlv2).mp (by first | exact Or.inl c64 | exact Or.inr (Int32.not_le.mp c70)))])) (by omega)
                    | exact ih45 (j + 1) _ _ _ (by omega) (by omega) (by rw [hun, hqT, if_neg (fun y => ((hqT_i hb2 hlv2).mpr y).elim c64 (Int32.not_lt.mpr c70))]; exact hb2) (by rw [hun, hqT, if_neg (fun y => ((hqT_i hb2 hlv2).mpr y).elim c64 (Int32.not_lt.mpr c70))]; exact hlv2) (by omega)
          exact K45 _ (i + 1) b lv _ (Nat.le_refl _) (by omega) (by rw [Nat.sub_self]; exact hb) (by rw [Nat.sub_self]; exact hlv) (Nat.lt_succ_self _)
    exact K33 _ 0 (-5) (nI l) none none (Nat.zero_le _) rfl (Or.inl rfl) (Nat.lt_succ_self _)
  refine x_aload_n dX3_pairToHold_8 rfl ?_
  refine y_geti dX3_pairToHold_9 F_Guesses_27 (fxo_100 hx) rfl hl ?_
  refine x_if_le (tgt := 28) dX3_pairToHold_12 rfl (fun c12 => ?_) (fun c12 => ?_)
  · refine x_iconst (v := 0) dX3_pairToHold_28 (by decide) ?_
    first | exact J29 _ (by rw [if_pos (nI_np c12)]) | (have h9 := (nI_le0 (by omega)).mp c12; exact J29 _ (by rw [if_neg (by omega)]; rfl))
  · refine x_aload_n dX3_pairToHold_15 rfl ?_
    refine y_getr dX3_pairToHold_16 F_Guesses_37 (fxo_100 hx) rfl (fxp_100_0 hx) ?_
    refine y_getr dX3_pairToHold_19 F_Guesses_47 (fxo_65 hx) rfl (fxp_65_1 hx) ?_
    refine x_callV (k2 := 0) (n2 := 0) dX3_pairToHold_22 LV_Guesses_85 (m_Table_rows tCoins) rfl rfl (fxo_68 hx) rfl (Nat.le_of_ble_eq_true rfl) (Nat.le_of_ble_eq_true rfl) (Nat.le_of_ble_eq_true rfl) (Nat.le_of_ble_eq_true rfl) ?_
    rintro _ _ ⟨rfl, rfl⟩
    refine x_goto (tgt := 29) dX3_pairToHold_25 rfl ?_
    first | exact J29 _ (by rw [if_pos (nI_np c12)]) | (have h9 := (nI_le0 (by omega)).mp c12; exact J29 _ (by rw [if_neg (by omega)]; rfl))
