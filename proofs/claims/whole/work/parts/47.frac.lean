/-! the class: fractions, calls that write in place -/
theorem mxI {u l : Nat} (hu : u < 2 ^ 31) (hl : l < 2 ^ 31) : (if nI u ≤ nI l then nI l else nI u) = nI (max u l) := by
  by_cases h : u ≤ l
  · rw [if_pos (nI_le h hl), Nat.max_eq_right h]
  · rw [if_neg (nI_ge (by omega) hu), Nat.max_eq_left (by omega)]
theorem mnI {u l : Nat} (hu : u < 2 ^ 31) (hl : l < 2 ^ 31) : (if nI u ≤ nI l then nI u else nI l) = nI (min u l) := by
  by_cases h : u ≤ l
  · rw [if_pos (nI_le h hl), Nat.min_eq_left h]
  · rw [if_neg (nI_ge (by omega) hu), Nat.min_eq_right (by omega)]
theorem gcd_mm {u l : Nat} : Nat.gcd (max u l) (min u l) = Nat.gcd u l := by
  by_cases h : u ≤ l
  · rw [Nat.max_eq_right h, Nat.min_eq_left h, Nat.gcd_comm]
  · rw [Nat.max_eq_left (by omega), Nat.min_eq_right (by omega)]
theorem gcd_st {g l : Nat} : Nat.gcd l (g % l) = Nat.gcd g l := by rw [Nat.gcd_comm g l, Nat.gcd_rec l g, Nat.gcd_comm]
theorem nI_0le {n : Nat} (h : n < 2 ^ 31) : 0 ≤ nI n := Int32.not_lt.mp (nI_pos h)
def TK (n0 k : Nat) (n : Int32) : Prop := n = 0 ∨ (k < n0 ∧ -4 ≤ n ∧ n ≤ 4)
theorem TK_b {s : Nat → Int32} {n0 k : Nat} {n : Int32} (e0 : s 0 = nI n0) (h0 : n0 ≤ 4) (hk : k < 4) : ((-4 ≤ n ∧ n ≤ 4) ∧ (n = 0 ∨ (0 ≤ nI k ∧ nI k < s 0))) ↔ TK n0 k n := by
  rw [e0]
  unfold TK
  have h1 : nI k < nI n0 ↔ k < n0 := nI_ltI (by omega) (by omega)
  have h2 : 0 ≤ nI k := nI_0le (by omega)
  constructor
  · rintro ⟨a, b | b⟩
    · exact Or.inl b
    · exact Or.inr ⟨h1.mp b.2, a⟩
  · rintro (rfl | ⟨a, b⟩)
    · exact ⟨by decide, Or.inl rfl⟩
    · exact ⟨b, Or.inr ⟨h2, h1.mpr a⟩⟩
theorem by4 {s : Nat → Int32} {p a b c d : Int32} {n0 : Nat} (e0 : s 0 = nI n0) (h0 : n0 ≤ 4) : byB s p (mk4 a b c d) 4 = true ↔ (0 ≤ p ∧ p ≤ 99) ∧ TK n0 0 a ∧ TK n0 1 b ∧ TK n0 2 c ∧ TK n0 3 d := by
  rw [byB_s, byB_s, byB_s, byB_s, TK_b (k := 3) e0 h0 (by decide), TK_b (k := 2) e0 h0 (by decide), TK_b (k := 1) e0 h0 (by decide), TK_b (k := 0) e0 h0 (by decide)]
  show (((decide (0 ≤ p ∧ p ≤ 99) = true ∧ TK n0 0 a) ∧ TK n0 1 b) ∧ TK n0 2 c) ∧ TK n0 3 d ↔ _
  rw [decide_eq_true_iff]
  exact ⟨fun h => ⟨h.1.1.1.1, h.1.1.1.2, h.1.1.2, h.1.2, h.2⟩, fun h => ⟨⟨⟨⟨h.1, h.2.1⟩, h.2.2.1⟩, h.2.2.2.1⟩, h.2.2.2.2⟩⟩
set_option maxHeartbeats 4000000 in
set_option maxRecDepth 100000 in
theorem m_C_commonDivisor {g : xG} {nx : Nat} {sh : Nat → Nat × Nat} {P : Nat → Nat → Option Nat} {I : Nat → Nat → Int32} {u l : Nat} (hu : u < 2 ^ 31) (hl : l < 2 ^ 31) : xMet g Y_C_commonDivisor 1 0 0 [.int (nI u), .int (nI l)] (nx, sh, P, I) (fun r σ => r = some (.int (nI (Nat.gcd u l))) ∧ σ = (nx, sh, P, I)) := by
  refine xMet.of [some (.int (nI u)), some (.int (nI l)), none, none, none, none] (by decide +kernel) (Nat.le_of_ble_eq_true rfl) rfl ?_
  refine x_iload_n dX10_commonDivisor_0 rfl ?_
  refine x_iload_n dX10_commonDivisor_1 rfl ?_
  refine x_callS (k2 := 0) (n2 := 0) dX10_commonDivisor_2 LS_C_260 m_max rfl rfl (Nat.le_of_ble_eq_true rfl) (Nat.le_of_ble_eq_true rfl) (Nat.le_of_ble_eq_true rfl) (Nat.le_of_ble_eq_true rfl) ?_
  rintro _ _ ⟨rfl, rfl⟩
  rw [mxI hu hl]
  refine x_istore_n dX10_commonDivisor_5 (Nat.le_of_ble_eq_true rfl) ?_
  try simp only [xst, xst2, xclr, xset, xwide]
  refine x_iload_n dX10_commonDivisor_6 rfl ?_
  refine x_iload_n dX10_commonDivisor_7 rfl ?_
  refine x_callS (k2 := 0) (n2 := 0) dX10_commonDivisor_8 LS_C_265 m_min rfl rfl (Nat.le_of_ble_eq_true rfl) (Nat.le_of_ble_eq_true rfl) (Nat.le_of_ble_eq_true rfl) (Nat.le_of_ble_eq_true rfl) ?_
  rintro _ _ ⟨rfl, rfl⟩
  rw [mnI hu hl]
  refine x_istore_n dX10_commonDivisor_11 (Nat.le_of_ble_eq_true rfl) ?_
  try simp only [xst, xst2, xclr, xset, xwide]
  refine x_iconst (v := 0) dX10_commonDivisor_12 (by decide) ?_
  refine x_istore dX10_commonDivisor_13 (Nat.le_of_ble_eq_true rfl) ?_
  try simp only [xst, xst2, xclr, xset, xwide]
  have K15 : ∀ (fuel : Nat) (i gg ll : Nat) (v5 : Option Value) (hi : i ≤ 100) (hgl : ll ≤ gg) (hg31 : gg < 2 ^ 31) (hgc : Nat.gcd gg ll = Nat.gcd u l) (hB1 : gg * 2 ^ (i / 2) < 2 ^ 32) (hB2 : ll * 2 ^ ((i + 1) / 2) < 2 ^ 32), 100 - i < fuel → xX g Y_C_commonDivisor 1 0 0 (fun r σ => r = some (.int (nI (Nat.gcd u l))) ∧ σ = (nx, sh, P, I)) 15 [some (.int (nI u)), some (.int (nI l)), some (.int (nI gg)), some (.int (nI ll)), some (.int (nI i)), v5] [] (nx, sh, P, I) := by
    intro fuel
    induction fuel with
    | zero => intro i gg ll v5 hi hgl hg31 hgc hB1 hB2 hm; exact absurd hm (Nat.not_lt_zero _)
    | succ fuel ih15 =>
      intro i gg ll v5 hi hgl hg31 hgc hB1 hB2 hm
      refine x_iload dX10_commonDivisor_15 rfl ?_
      refine x_bipush (v := 100) dX10_commonDivisor_17 (by decide) ?_
      refine x_icmp_ge (tgt := 42) dX10_commonDivisor_19 rfl (fun c19 => ?_) (fun c19 => ?_)
      · have hie : i = 100 := cge_t (by decide) hi c19
        have hl0 : ll = 0 := by
          rw [hie] at hB2
          have h9 : ll * 2 ^ 50 < 2 ^ 32 := hB2
          rcases Nat.eq_zero_or_pos ll with z | z
          · exact z
          · have : 1 * 2 ^ 50 ≤ ll * 2 ^ 50 := Nat.mul_le_mul_right _ z
            omega
        refine x_iload_n dX10_commonDivisor_42 rfl ?_
        refine x_ireturn dX10_commonDivisor_43 rfl nb_int ?_
        rw [hl0, Nat.gcd_zero_right] at hgc
        exact ⟨by rw [hgc], rfl⟩
      · have him : i < 100 := cge_f (by decide) hi c19
        refine x_iload_n dX10_commonDivisor_22 rfl ?_
        refine x_if_le (tgt := 42) dX10_commonDivisor_23 rfl (fun c23 => ?_) (fun c23 => ?_)
        · have hl0 : ll = 0 := (nI_le0 (by omega)).mp c23
          refine x_iload_n dX10_commonDivisor_42 rfl ?_
          refine x_ireturn dX10_commonDivisor_43 rfl nb_int ?_
          rw [hl0, Nat.gcd_zero_right] at hgc
          exact ⟨by rw [hgc], rfl⟩
        · have h0l : 0 < ll := by rcases Nat.eq_zero_or_pos ll with z | z; exact absurd (by rw [z]; decide) c23; exact z
          refine x_iload_n dX10_commonDivisor_26 rfl ?_
          refine x_iload_n dX10_commonDivisor_27 rfl ?_
          refine x_irem dX10_commonDivisor_28 (nI_ne0 h0l (by omega)) ?_
          rw [pk_rem (by omega) h0l (by omega)]
          refine x_istore dX10_commonDivisor_29 (Nat.le_of_ble_eq_true rfl) ?_
          try simp only [xst, xst2, xclr, xset, xwide]
          refine x_iload_n dX10_commonDivisor_31 rfl ?_
          refine x_istore_n dX10_commonDivisor_32 (Nat.le_of_ble_eq_true rfl) ?_
          try simp only [xst, xst2, xclr, xset, xwide]
          refine x_iload dX10_commonDivisor_33 rfl ?_
          refine x_istore_n dX10_commonDivisor_35 (Nat.le_of_ble_eq_true rfl) ?_
          try simp only [xst, xst2, xclr, xset, xwide]
          refine x_iinc (v := (nI (i + 1))) dX10_commonDivisor_36 rfl (nI_1 _) (Nat.le_of_ble_eq_true rfl) ?_
          try simp only [xst, xst2, xclr, xset, xwide]
          refine x_goto (tgt := 15) dX10_commonDivisor_39 rfl ?_
          exact ih15 (i + 1) ll (gg % ll) _ (by omega) (Nat.le_of_lt (Nat.mod_lt _ h0l)) (by omega) (gcd_st.trans hgc) (eu_s h0l hgl hB1 hB2).1 (eu_s h0l hgl hB1 hB2).2 (by omega)
  exact K15 _ 0 (max u l) (min u l) none (Nat.zero_le _) (by omega) (by omega) gcd_mm (by show max u l * 1 < 2 ^ 32; omega) (by show min u l * 1 < 2 ^ 32; omega) (Nat.lt_succ_self _)

set_option maxHeartbeats 4000000 in
set_option maxRecDepth 100000 in
theorem m_C_fraction {g : xG} {nx : Nat} {sh : Nat → Nat × Nat} {P : Nat → Nat → Option Nat} {I : Nat → Nat → Int32} {u l : Nat} {part : Int32} (hu : u < 2 ^ 31) (hl : l < 2 ^ 31) : xMet g Y_C_fraction 2 0 0 [.int (nI u), .int (nI l), .int part] (nx, sh, P, I) (fun r σ => r = some (.long (if l = 0 then -9223372036854775808 else frL u l part)) ∧ σ = (nx, sh, P, I)) := by
  refine xMet.of [some (.int (nI u)), some (.int (nI l)), some (.int part), none] (by decide +kernel) (Nat.le_of_ble_eq_true rfl) rfl ?_
  refine x_iload_n dX10_fraction_0 rfl ?_
  refine x_iload_n dX10_fraction_1 rfl ?_
  refine x_callS (k2 := 0) (n2 := 0) dX10_fraction_2 LS_C_257 (m_C_commonDivisor hu hl) rfl rfl (Nat.le_of_ble_eq_true rfl) (Nat.le_of_ble_eq_true rfl) (Nat.le_of_ble_eq_true rfl) (Nat.le_of_ble_eq_true rfl) ?_
  rintro _ _ ⟨rfl, rfl⟩
  refine x_istore_n dX10_fraction_5 (Nat.le_of_ble_eq_true rfl) ?_
  try simp only [xst, xst2, xclr, xset, xwide]
  refine x_iload_n dX10_fraction_6 rfl ?_
  refine x_if_le (tgt := 14) dX10_fraction_7 rfl (fun c7 => ?_) (fun c7 => ?_)
  · have hl0 : l = 0 := (nI_le0 hl).mp c7
    refine x_ldc2 dX10_fraction_14 K_C_162 ?_
    refine x_lreturn dX10_fraction_17 rfl ?_
    exact ⟨by rw [if_pos hl0], rfl⟩
  · have h0l : 0 < l := by rcases Nat.eq_zero_or_pos l with z | z; exact absurd (by rw [z]; decide) c7; exact z
    have hg0 : 0 < Nat.gcd u l := Nat.gcd_pos_of_pos_right u h0l
    have hg1 : Nat.gcd u l < 2 ^ 31 := Nat.lt_of_le_of_lt (Nat.gcd_le_right u h0l) hl
    refine x_iload_n dX10_fraction_10 rfl ?_
    refine x_if_gt (tgt := 18) dX10_fraction_11 rfl (fun c11 => ?_) (fun c11 => ?_)
    · refine x_iload_n dX10_fraction_18 rfl ?_
      refine x_if_ne (tgt := 26) dX10_fraction_19 rfl (fun c19 => ?_) (fun c19 => ?_)
      · refine x_iload_n dX10_fraction_26 rfl ?_
        refine x_iload_n dX10_fraction_27 rfl ?_
        refine x_idiv dX10_fraction_28 (nI_ne0 hg0 hg1) ?_
        rw [pk_div (by omega) hg0 hg1]
        refine x_i2l dX10_fraction_29 ?_
        rw [nI_l (Nat.lt_of_le_of_lt (Nat.div_le_self _ _) (by omega))]
        refine x_lreturn dX10_fraction_30 rfl ?_
        first | exact ⟨by rw [if_neg (by omega)]; unfold frL; rw [if_pos c19], rfl⟩ | exact ⟨by rw [if_neg (by omega)]; unfold frL; rw [if_neg c19], rfl⟩
      · refine x_iload_n dX10_fraction_22 rfl ?_
        refine x_goto (tgt := 27) dX10_fraction_23 rfl ?_
        refine x_iload_n dX10_fraction_27 rfl ?_
        refine x_idiv dX10_fraction_28 (nI_ne0 hg0 hg1) ?_
        rw [pk_div (by omega) hg0 hg1]
        refine x_i2l dX10_fraction_29 ?_
        rw [nI_l (Nat.lt_of_le_of_lt (Nat.div_le_self _ _) (by omega))]
        refine x_lreturn dX10_fraction_30 rfl ?_
        first | exact ⟨by rw [if_neg (by omega)]; unfold frL; rw [if_pos c19], rfl⟩ | exact ⟨by rw [if_neg (by omega)]; unfold frL; rw [if_neg c19], rfl⟩
    · exact absurd ((nI_ltI (a := 0) (b := Nat.gcd u l) (by decide) hg1).mpr hg0) c11

set_option maxHeartbeats 4000000 in
set_option maxRecDepth 100000 in
theorem m_C_isTaken {g : xG} {nx : Nat} {sh : Nat → Nat × Nat} {P : Nat → Nat → Option Nat} {I : Nat → Nat → Int32} (hx : xFx sh P) {s : Nat → Int32} (hW : xWN nx sh P I s) (hR : RI s) {kq : Nat} {n : Int32} (hk4 : kq < 4) : xMet g Y_C_isTaken 1 0 0 [.ref 64, .int (nI kq), .int n] (nx, sh, P, I) (fun r σ => r = some (.int (if n = 0 ∨ (kq < cN s 0 ∧ -4 ≤ n ∧ n ≤ 4) then 1 else 0)) ∧ σ = (nx, sh, P, I)) := by
  refine xMet.of [some (.ref 64), some (.int (nI kq)), some (.int n)] (by decide +kernel) (Nat.le_of_ble_eq_true rfl) rfl ?_
  obtain ⟨⟨tTape, tCoins, tWares, tBuys, tSlates, tPlans, tBooked⟩, ⟨cTape, cCoins, cWares, cBuys, cSlates, cPlans, cBooked⟩, hW7, hW9, hL⟩ := id hW
  obtain ⟨⟨n0, b0, e0⟩, ⟨n1, b1, e1⟩, ⟨n2, b2, e2⟩, ⟨n3, b3, e3⟩, ⟨n4, b4, e4⟩, ⟨n5, b5, e5⟩, ⟨n6, b6, e6⟩, ⟨n7, b7, e7⟩, ⟨n9, b9, e9⟩⟩ := hR.k
  have k7 : cN s 7 = n7 := cN_of e7 (by omega)
  rw [k7] at tTape cTape
  have k0 : cN s 0 = n0 := cN_of e0 (by omega)
  rw [k0] at tCoins cCoins
  have k1 : cN s 1 = n1 := cN_of e1 (by omega)
  rw [k1] at tWares cWares
  have k3 : cN s 3 = n3 := cN_of e3 (by omega)
  rw [k3] at tBuys cBuys
  have k4 : cN s 4 = n4 := cN_of e4 (by omega)
  rw [k4] at tSlates cSlates
  have k5 : cN s 5 = n5 := cN_of e5 (by omega)
  rw [k5] at tPlans cPlans
  have k6 : cN s 6 = n6 := cN_of e6 (by omega)
  rw [k6] at tBooked cBooked
  rw [k0]
  refine x_iload_n dX10_isTaken_0 rfl ?_
  refine x_if_eq (tgt := 28) dX10_isTaken_1 rfl (fun c1 => ?_) (fun c1 => ?_)
  · refine x_iconst (v := 1) dX10_isTaken_28 (by decide) ?_
    refine x_goto (tgt := 33) dX10_isTaken_29 rfl ?_
    refine x_ireturn dX10_isTaken_33 rfl rfl ?_
    first
    | exact ⟨by rw [if_pos (Or.inl c1)], rfl⟩
    | (have h9 := b_t c15; have h8 := o_t c25; exact ⟨by rw [if_pos (Or.inr ⟨(nI_ltI (by omega) (by omega)).mp h9.2, h8⟩)], rfl⟩)
    | (have h8 := o_f c25; exact ⟨by rw [if_neg (fun z => z.elim c1 (fun y => h8 y.2))], rfl⟩)
    | (have h8 := b_f c15; exact ⟨by rw [if_neg (fun z => z.elim c1 (fun y => h8 ⟨nI_0le (by omega), (nI_ltI (by omega) (by omega)).mpr y.1⟩))], rfl⟩)
  · refine x_aload_n dX10_isTaken_4 rfl ?_
    refine y_getr dX10_isTaken_5 F_C_12 (fxo_64 hx) rfl (fxp_64_0 hx) ?_
    refine y_getr dX10_isTaken_8 F_C_110 (fxo_65 hx) rfl (fxp_65_1 hx) ?_
    refine x_iload_n dX10_isTaken_11 rfl ?_
    refine x_callV (k2 := 0) (n2 := 0) dX10_isTaken_12 LV_C_113 (m_Table_has tCoins) rfl rfl (fxo_68 hx) rfl (Nat.le_of_ble_eq_true rfl) (Nat.le_of_ble_eq_true rfl) (Nat.le_of_ble_eq_true rfl) (Nat.le_of_ble_eq_true rfl) ?_
    rintro _ _ ⟨rfl, rfl⟩
    refine x_if_eq (tgt := 32) dX10_isTaken_15 rfl (fun c15 => ?_) (fun c15 => ?_)
    · refine x_iconst (v := 0) dX10_isTaken_32 (by decide) ?_
      refine x_ireturn dX10_isTaken_33 rfl rfl ?_
      first
      | exact ⟨by rw [if_pos (Or.inl c1)], rfl⟩
      | (have h9 := b_t c15; have h8 := o_t c25; exact ⟨by rw [if_pos (Or.inr ⟨(nI_ltI (by omega) (by omega)).mp h9.2, h8⟩)], rfl⟩)
      | (have h8 := o_f c25; exact ⟨by rw [if_neg (fun z => z.elim c1 (fun y => h8 y.2))], rfl⟩)
      | (have h8 := b_f c15; exact ⟨by rw [if_neg (fun z => z.elim c1 (fun y => h8 ⟨nI_0le (by omega), (nI_ltI (by omega) (by omega)).mpr y.1⟩))], rfl⟩)
    · refine x_iload_n dX10_isTaken_18 rfl ?_
      refine x_bipush (v := (-4)) dX10_isTaken_19 (by decide) ?_
      refine x_iconst (v := 4) dX10_isTaken_21 (by decide) ?_
      refine x_callS (k2 := 0) (n2 := 0) dX10_isTaken_22 LS_C_71 m_C_isOutside rfl rfl (Nat.le_of_ble_eq_true rfl) (Nat.le_of_ble_eq_true rfl) (Nat.le_of_ble_eq_true rfl) (Nat.le_of_ble_eq_true rfl) ?_
      rintro _ _ ⟨rfl, rfl⟩
      refine x_if_ne (tgt := 32) dX10_isTaken_25 rfl (fun c25 => ?_) (fun c25 => ?_)
      · refine x_iconst (v := 0) dX10_isTaken_32 (by decide) ?_
        refine x_ireturn dX10_isTaken_33 rfl rfl ?_
        first
        | exact ⟨by rw [if_pos (Or.inl c1)], rfl⟩
        | (have h9 := b_t c15; have h8 := o_t c25; exact ⟨by rw [if_pos (Or.inr ⟨(nI_ltI (by omega) (by omega)).mp h9.2, h8⟩)], rfl⟩)
        | (have h8 := o_f c25; exact ⟨by rw [if_neg (fun z => z.elim c1 (fun y => h8 y.2))], rfl⟩)
        | (have h8 := b_f c15; exact ⟨by rw [if_neg (fun z => z.elim c1 (fun y => h8 ⟨nI_0le (by omega), (nI_ltI (by omega) (by omega)).mpr y.1⟩))], rfl⟩)
      · refine x_iconst (v := 1) dX10_isTaken_28 (by decide) ?_
        refine x_goto (tgt := 33) dX10_isTaken_29 rfl ?_
        refine x_ireturn dX10_isTaken_33 rfl rfl ?_
        first
        | exact ⟨by rw [if_pos (Or.inl c1)], rfl⟩
        | (have h9 := b_t c15; have h8 := o_t c25; exact ⟨by rw [if_pos (Or.inr ⟨(nI_ltI (by omega) (by omega)).mp h9.2, h8⟩)], rfl⟩)
        | (have h8 := o_f c25; exact ⟨by rw [if_neg (fun z => z.elim c1 (fun y => h8 y.2))], rfl⟩)
        | (have h8 := b_f c15; exact ⟨by rw [if_neg (fun z => z.elim c1 (fun y => h8 ⟨nI_0le (by omega), (nI_ltI (by omega) (by omega)).mpr y.1⟩))], rfl⟩)

set_option maxHeartbeats 4000000 in
set_option maxRecDepth 100000 in
theorem m_C_pass {g : xG} {nx : Nat} {sh : Nat → Nat × Nat} {P : Nat → Nat → Option Nat} {I : Nat → Nat → Int32} (hx : xFx sh P) {s : Nat → Int32} (hW : xWN nx sh P I s) (hR : RI s) {x : Int32} : xMet g Y_C_pass 1 0 0 [.ref 64, .int x] (nx, sh, P, I) (fun r σ => ∃ I1 : Nat → Nat → Int32, r = some (.int (a_pass s x)) ∧ σ = (nx, sh, P, I1) ∧ xWN nx sh P I1 (s_pass s x) ∧ xFrm [65] I I1) := by
  refine xMet.of [some (.ref 64), some (.int x)] (by decide +kernel) (Nat.le_of_ble_eq_true rfl) rfl ?_
  obtain ⟨⟨tTape, tCoins, tWares, tBuys, tSlates, tPlans, tBooked⟩, ⟨cTape, cCoins, cWares, cBuys, cSlates, cPlans, cBooked⟩, hW7, hW9, hL⟩ := id hW
  obtain ⟨⟨n0, b0, e0⟩, ⟨n1, b1, e1⟩, ⟨n2, b2, e2⟩, ⟨n3, b3, e3⟩, ⟨n4, b4, e4⟩, ⟨n5, b5, e5⟩, ⟨n6, b6, e6⟩, ⟨n7, b7, e7⟩, ⟨n9, b9, e9⟩⟩ := hR.k
  have k7 : cN s 7 = n7 := cN_of e7 (by omega)
  rw [k7] at tTape cTape
  have k0 : cN s 0 = n0 := cN_of e0 (by omega)
  rw [k0] at tCoins cCoins
  have k1 : cN s 1 = n1 := cN_of e1 (by omega)
  rw [k1] at tWares cWares
  have k3 : cN s 3 = n3 := cN_of e3 (by omega)
  rw [k3] at tBuys cBuys
  have k4 : cN s 4 = n4 := cN_of e4 (by omega)
  rw [k4] at tSlates cSlates
  have k5 : cN s 5 = n5 := cN_of e5 (by omega)
  rw [k5] at tPlans cPlans
  have k6 : cN s 6 = n6 := cN_of e6 (by omega)
  rw [k6] at tBooked cBooked
  refine x_iload_n dX10_pass_0 rfl ?_
  refine x_iconst (v := 0) dX10_pass_1 (by decide) ?_
  refine x_bipush (v := 60) dX10_pass_2 (by decide) ?_
  refine x_callS (k2 := 0) (n2 := 0) dX10_pass_4 LS_C_71 m_C_isOutside rfl rfl (Nat.le_of_ble_eq_true rfl) (Nat.le_of_ble_eq_true rfl) (Nat.le_of_ble_eq_true rfl) (Nat.le_of_ble_eq_true rfl) ?_
  rintro _ _ ⟨rfl, rfl⟩
  refine x_if_eq (tgt := 13) dX10_pass_7 rfl (fun c7 => ?_) (fun c7 => ?_)
  · refine x_aload_n dX10_pass_13 rfl ?_
    refine y_getr dX10_pass_14 F_C_12 (fxo_64 hx) rfl (fxp_64_0 hx) ?_
    refine y_geti dX10_pass_17 F_C_128 (fxo_65 hx) rfl hW9 ?_
    refine x_iload_n dX10_pass_20 rfl ?_
    refine x_iadd dX10_pass_21 ?_
    refine x_sipush (v := 9999) dX10_pass_22 (by decide) ?_
    refine x_icmp_le (tgt := 31) dX10_pass_25 rfl (fun c25 => ?_) (fun c25 => ?_)
    · refine x_aload_n dX10_pass_31 rfl ?_
      refine y_getr dX10_pass_32 F_C_12 (fxo_64 hx) rfl (fxp_64_0 hx) ?_
      refine x_dup dX10_pass_35 rfl ?_
      refine y_geti dX10_pass_36 F_C_128 (fxo_65 hx) rfl hW9 ?_
      refine x_iload_n dX10_pass_39 rfl ?_
      refine x_iadd dX10_pass_40 ?_
      refine x_puti dX10_pass_41 F_C_128 T_9_9 (fxo_65 hx) rfl rfl rfl ?_
      refine x_aload_n dX10_pass_44 rfl ?_
      refine y_getr dX10_pass_45 F_C_12 (fxo_64 hx) rfl (fxp_64_0 hx) ?_
      refine y_geti dX10_pass_48 F_C_128 (fxo_65 hx) rfl xs ?_
      refine x_ireturn dX10_pass_51 rfl nb_int ?_
      have hs : s_pass s x = upd s 9 (s 9 + x) := by unfold s_pass; rw [if_pos ⟨o_t c7, c25⟩]
      have hA : ∀ j, j ≠ 9 → (s_pass s x) j = s j := fun j q0 => by rw [hs, upd_n q0]
      obtain ⟨I1, hI1⟩ : ∃ I1, I1 = xup I 65 9 (s 9 + x) := ⟨_, rfl⟩
      have hF : xFrm [65] I I1 := by rw [hI1]; exact xFrs xFrm.rf
      exact ⟨I1, by unfold a_pass; rw [if_pos (o_t c7), if_neg (Int32.not_lt.mpr c25)], by rw [hI1], hW.mst hR (Or.inl ⟨hF 66 (by decide), hF 67 (by decide), hA 7 (by decide), fun j _ _ => hA j (by omega)⟩) (Or.inl ⟨hF 68 (by decide), hF 69 (by decide), hA 0 (by decide), fun j _ _ => hA j (by omega)⟩) (Or.inl ⟨hF 70 (by decide), hF 71 (by decide), hA 1 (by decide), fun j _ _ => hA j (by omega)⟩) (Or.inl ⟨hF 72 (by decide), hF 73 (by decide), hA 3 (by decide), fun j _ _ => hA j (by omega)⟩) (Or.inl ⟨hF 74 (by decide), hF 75 (by decide), hA 4 (by decide), fun j _ _ => hA j (by omega)⟩) (Or.inl ⟨hF 76 (by decide), hF 77 (by decide), hA 5 (by decide), fun j _ _ => hA j (by omega)⟩) (Or.inl ⟨hF 78 (by decide), hF 79 (by decide), hA 6 (by decide), fun j _ _ => hA j (by omega)⟩) (by rw [hI1, xf (by decide), hA 2 (by decide)]; exact hW7) (by rw [hI1, xs, hs, upd_e]) ⟨fun a ha => hF a (fun z => by simp only [List.mem_cons, List.not_mem_nil, or_false] at z; omega), hA 8 (by decide), fun j hj => hA j (by omega)⟩, hF⟩
    · refine x_bipush (v := (-3)) dX10_pass_28 (by decide) ?_
      refine x_ireturn dX10_pass_30 rfl nb_int ?_
      exact ⟨I, by unfold a_pass; rw [if_pos (o_t c7), if_pos (Int32.not_le.mp c25)], rfl, by unfold s_pass; rw [if_neg (fun z => c25 z.2)]; exact hW, xFrm.rf⟩
  · refine x_bipush (v := (-2)) dX10_pass_10 (by decide) ?_
    refine x_ireturn dX10_pass_12 rfl nb_int ?_
    exact ⟨I, by unfold a_pass; rw [if_neg (o_f c7)], rfl, by unfold s_pass; rw [if_neg (fun z => o_f c7 z.1)]; exact hW, xFrm.rf⟩

set_option maxHeartbeats 4000000 in
set_option maxRecDepth 100000 in
theorem m_C_row {g : xG} {nx : Nat} {sh : Nat → Nat × Nat} {P : Nat → Nat → Option Nat} {I : Nat → Nat → Int32} (hx : xFx sh P) {s : Nat → Int32} (hW : xWN nx sh P I s) (hR : RI s) {c k v : Int32} : xMet g Y_C_row 2 0 0 [.ref 64, .int c, .int k, .int v] (nx, sh, P, I) (fun r σ => ∃ I1 : Nat → Nat → Int32, r = some (.int (a_row s c k v)) ∧ σ = (nx, sh, P, I1) ∧ xWN nx sh P I1 (s_row s c k v) ∧ xFrm [69] I I1) := by
  refine xMet.of [some (.ref 64), some (.int c), some (.int k), some (.int v)] (by decide +kernel) (Nat.le_of_ble_eq_true rfl) rfl ?_
  obtain ⟨⟨tTape, tCoins, tWares, tBuys, tSlates, tPlans, tBooked⟩, ⟨cTape, cCoins, cWares, cBuys, cSlates, cPlans, cBooked⟩, hW7, hW9, hL⟩ := id hW
  obtain ⟨⟨n0, b0, e0⟩, ⟨n1, b1, e1⟩, ⟨n2, b2, e2⟩, ⟨n3, b3, e3⟩, ⟨n4, b4, e4⟩, ⟨n5, b5, e5⟩, ⟨n6, b6, e6⟩, ⟨n7, b7, e7⟩, ⟨n9, b9, e9⟩⟩ := hR.k
  have k7 : cN s 7 = n7 := cN_of e7 (by omega)
  rw [k7] at tTape cTape
  have k0 : cN s 0 = n0 := cN_of e0 (by omega)
  rw [k0] at tCoins cCoins
  have k1 : cN s 1 = n1 := cN_of e1 (by omega)
  rw [k1] at tWares cWares
  have k3 : cN s 3 = n3 := cN_of e3 (by omega)
  rw [k3] at tBuys cBuys
  have k4 : cN s 4 = n4 := cN_of e4 (by omega)
  rw [k4] at tSlates cSlates
  have k5 : cN s 5 = n5 := cN_of e5 (by omega)
  rw [k5] at tPlans cPlans
  have k6 : cN s 6 = n6 := cN_of e6 (by omega)
  rw [k6] at tBooked cBooked
  refine x_aload_n dX10_row_0 rfl ?_
  refine y_getr dX10_row_1 F_C_12 (fxo_64 hx) rfl (fxp_64_0 hx) ?_
  refine y_getr dX10_row_4 F_C_110 (fxo_65 hx) rfl (fxp_65_1 hx) ?_
  refine x_iload_n dX10_row_7 rfl ?_
  refine x_callV (k2 := 0) (n2 := 0) dX10_row_8 LV_C_113 (m_Table_has tCoins) rfl rfl (fxo_68 hx) rfl (Nat.le_of_ble_eq_true rfl) (Nat.le_of_ble_eq_true rfl) (Nat.le_of_ble_eq_true rfl) (Nat.le_of_ble_eq_true rfl) ?_
  rintro _ _ ⟨rfl, rfl⟩
  refine x_if_eq (tgt := 23) dX10_row_11 rfl (fun c11 => ?_) (fun c11 => ?_)
  · refine x_iconst (v := (-1)) dX10_row_23 (by decide) ?_
    refine x_ireturn dX10_row_24 rfl nb_int ?_
    first | exact ⟨I, by unfold a_row; rw [if_neg (fun y => (show ¬ (0 ≤ c ∧ c < s 0) from by rw [e0]; exact b_f c11) y.1)], rfl, by unfold s_row; rw [if_neg (fun y => (show ¬ (0 ≤ c ∧ c < s 0) from by rw [e0]; exact b_f c11) y.1.1)]; exact hW, xFrm.rf⟩ | exact ⟨I, by unfold a_row; rw [if_neg (fun y => o_f c20 y.2)], rfl, by unfold s_row; rw [if_neg (fun y => o_f c20 y.1.2)]; exact hW, xFrm.rf⟩
  · refine x_iload_n dX10_row_14 rfl ?_
    refine x_iconst (v := 0) dX10_row_15 (by decide) ?_
    refine x_iconst (v := 3) dX10_row_16 (by decide) ?_
    refine x_callS (k2 := 0) (n2 := 0) dX10_row_17 LS_C_71 m_C_isOutside rfl rfl (Nat.le_of_ble_eq_true rfl) (Nat.le_of_ble_eq_true rfl) (Nat.le_of_ble_eq_true rfl) (Nat.le_of_ble_eq_true rfl) ?_
    rintro _ _ ⟨rfl, rfl⟩
    refine x_if_eq (tgt := 25) dX10_row_20 rfl (fun c20 => ?_) (fun c20 => ?_)
    · obtain ⟨q, hq, rfl⟩ := i_2 (n := n0) (by omega) (b_t c11)
      obtain ⟨z, hz, rfl⟩ := i_2 (i := k) (n := 4) (by decide) (by have := o_t c20; exact ⟨this.1, by have h2 := this.2; show k < 4; grind⟩)
      refine x_iload_n dX10_row_25 rfl ?_
      refine x_iconst (v := 0) dX10_row_26 (by decide) ?_
      refine x_bipush (v := 9) dX10_row_27 (by decide) ?_
      refine x_callS (k2 := 0) (n2 := 0) dX10_row_29 LS_C_71 m_C_isOutside rfl rfl (Nat.le_of_ble_eq_true rfl) (Nat.le_of_ble_eq_true rfl) (Nat.le_of_ble_eq_true rfl) (Nat.le_of_ble_eq_true rfl) ?_
      rintro _ _ ⟨rfl, rfl⟩
      refine x_if_eq (tgt := 38) dX10_row_32 rfl (fun c32 => ?_) (fun c32 => ?_)
      · refine x_aload_n dX10_row_38 rfl ?_
        refine y_getr dX10_row_39 F_C_12 (fxo_64 hx) rfl (fxp_64_0 hx) ?_
        refine y_getr dX10_row_42 F_C_110 (fxo_65 hx) rfl (fxp_65_1 hx) ?_
        refine x_iload_n dX10_row_45 rfl ?_
        refine x_iconst (v := 0) dX10_row_46 (by decide) ?_
        refine x_callV (k2 := 0) (n2 := 0) dX10_row_47 LV_C_125 (m_Table_get tCoins (x := nI q) (z := nI 0)) rfl rfl (fxo_68 hx) rfl (Nat.le_of_ble_eq_true rfl) (Nat.le_of_ble_eq_true rfl) (Nat.le_of_ble_eq_true rfl) (Nat.le_of_ble_eq_true rfl) ?_
        rintro _ _ ⟨rfl, rfl⟩
        rw [xTg_in (r := q) (k := 0) (by omega) (by omega) (by omega) (by decide), (cCoins q hq).1]
        refine x_bipush (v := 6) dX10_row_50 (by decide) ?_
        refine x_icmp_eq (tgt := 58) dX10_row_52 rfl (fun c52 => ?_) (fun c52 => ?_)
        · refine x_aload_n dX10_row_58 rfl ?_
          refine y_getr dX10_row_59 F_C_12 (fxo_64 hx) rfl (fxp_64_0 hx) ?_
          refine y_getr dX10_row_62 F_C_110 (fxo_65 hx) rfl (fxp_65_1 hx) ?_
          refine x_iload_n dX10_row_65 rfl ?_
          refine x_iconst (v := 4) dX10_row_66 (by decide) ?_
          refine x_iload_n dX10_row_67 rfl ?_
          refine x_iadd dX10_row_68 ?_
          rw [show (4 : Int32) + nI z = nI (4 + z) from nI_add 4 z]
          refine x_iload_n dX10_row_69 rfl ?_
          refine x_callV (k2 := 0) (n2 := 0) dX10_row_70 LV_C_85 (m_Table_put tCoins (r := q) (q := 4 + z) hq (by omega)) rfl rfl (fxo_68 hx) rfl (Nat.le_of_ble_eq_true rfl) (Nat.le_of_ble_eq_true rfl) (Nat.le_of_ble_eq_true rfl) (Nat.le_of_ble_eq_true rfl) ?_
          rintro _ _ ⟨rfl, rfl⟩
          rw [(cCoins q hq).2.2.2.2 z hz]
          refine x_ireturn dX10_row_73 rfl nb_int ?_
          have hix : ixC (4 + z) q = 26 + 4 * q + z := by unfold ixC; rw [if_neg (by omega)]; omega
          have hp := coin_put hW hR (q := q) (j := 4 + z) (v := v) (by omega) (by omega)
          rw [hix] at hp
          exact ⟨_, by unfold a_row; rw [if_pos ⟨(show 0 ≤ nI q ∧ nI q < s 0 from by rw [e0]; exact b_t c11), o_t c20⟩, if_pos (o_t c32), nI_clamp (by omega), nI_clamp (by omega), if_pos c52], rfl, by unfold s_row; rw [if_pos ⟨⟨(show 0 ≤ nI q ∧ nI q < s 0 from by rw [e0]; exact b_t c11), o_t c20⟩, o_t c32, by rw [nI_clamp (by omega)]; exact c52⟩, nI_clamp (by omega), nI_clamp (by omega)]; exact hp, xFrs xFrm.rf⟩
        · refine x_bipush (v := (-3)) dX10_row_55 (by decide) ?_
          refine x_ireturn dX10_row_57 rfl nb_int ?_
          exact ⟨I, by unfold a_row; rw [if_pos ⟨(show 0 ≤ nI q ∧ nI q < s 0 from by rw [e0]; exact b_t c11), o_t c20⟩, if_pos (o_t c32), nI_clamp (by omega), if_neg c52], rfl, by unfold s_row; rw [if_neg (fun y => c52 (by have := y.2.2; rw [nI_clamp (by omega)] at this; exact this))]; exact hW, xFrm.rf⟩
      · refine x_bipush (v := (-2)) dX10_row_35 (by decide) ?_
        refine x_ireturn dX10_row_37 rfl nb_int ?_
        exact ⟨I, by unfold a_row; rw [if_pos ⟨(show 0 ≤ nI q ∧ nI q < s 0 from by rw [e0]; exact b_t c11), o_t c20⟩, if_neg (o_f c32)], rfl, by unfold s_row; rw [if_neg (fun y => o_f c32 y.2.1)]; exact hW, xFrm.rf⟩
    · refine x_iconst (v := (-1)) dX10_row_23 (by decide) ?_
      refine x_ireturn dX10_row_24 rfl nb_int ?_
      first | exact ⟨I, by unfold a_row; rw [if_neg (fun y => (show ¬ (0 ≤ c ∧ c < s 0) from by rw [e0]; exact b_f c11) y.1)], rfl, by unfold s_row; rw [if_neg (fun y => (show ¬ (0 ≤ c ∧ c < s 0) from by rw [e0]; exact b_f c11) y.1.1)]; exact hW, xFrm.rf⟩ | exact ⟨I, by unfold a_row; rw [if_neg (fun y => o_f c20 y.2)], rfl, by unfold s_row; rw [if_neg (fun y => o_f c20 y.1.2)]; exact hW, xFrm.rf⟩
