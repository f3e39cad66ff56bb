/-! the class: guesses gone through -/
def flF (f : Nat → Int32) (v : Int32) (i : Nat) : Nat → Int32 := fun j => if j < i then v else f j
theorem flF_0 {f : Nat → Int32} {v : Int32} : flF f v 0 = f := by funext j; unfold flF; rw [if_neg (Nat.not_lt_zero j)]
theorem flF_s {f : Nat → Int32} {v : Int32} {i : Nat} : upd (flF f v i) i v = flF f v (i + 1) := by
  funext j; unfold upd flF
  by_cases h : j = i
  · rw [if_pos h, if_pos (by omega)]
  · rw [if_neg h]
    by_cases h2 : j < i
    · rw [if_pos h2, if_pos (by omega)]
    · rw [if_neg h2, if_neg (by omega)]
theorem hsN {i n : Nat} (hi : i < 2 ^ 31) (hn : n < 2 ^ 31) : (if 0 ≤ nI i ∧ nI i < nI n then (1 : Int32) else 0) = bv (decide (i < n)) := by
  by_cases h : i < n
  · rw [if_pos ⟨nI_0le hi, (nI_ltI hi hn).mpr h⟩, decide_eq_true h]; rfl
  · rw [if_neg (fun z => h ((nI_ltI hi hn).mp z.2)), decide_eq_false h]; rfl
def gLo (n c : Nat) : Int32 := if c < n then 1 else 0
def gHi (n t c : Nat) : Int32 := if c < n then nI t else 0
def gLn (n t c : Nat) : Nat := if c < n then t else 1
/-- the base that guess i of the class tells coin c -/
def gvI (n t i c : Nat) : Nat := (if c < n then 1 else 0) + dgt (gLn n t) 4 i c
def xGst (I : Nat → Nat → Int32) (s : Nat → Int32) (t : Nat) : Prop := (∀ c, c < 4 → I 102 c = gLo (cN s 0) c ∧ I 103 c = gHi (cN s 0) t c) ∧ ∀ c b, c < 4 → b < 10 → I 105 (10 * c + b) = if c < cN s 0 ∧ 1 ≤ b then wb s c b else 0
theorem xGst.lh {I : Nat → Nat → Int32} {s : Nat → Int32} {t : Nat} (h : xGst I s t) (h1 : 1 ≤ t) (h9 : t ≤ 9) : xLH (I 102) (I 103) (gLn (cN s 0) t) 4 := fun c hc => by
  obtain ⟨e1, e2⟩ := h.1 c hc
  rw [e1, e2]
  unfold gLo gHi gLn
  by_cases hz : c < cN s 0
  · rw [if_pos hz, if_pos hz, if_pos hz, nI_toInt (by omega)]
    refine ⟨h1, by omega, by decide, by decide, ?_⟩
    show (t : Int) = (1 : Int) + t - 1; omega
  · rw [if_neg hz, if_neg hz, if_neg hz]
    decide
theorem xGst.at {I : Nat → Nat → Int32} {s : Nat → Int32} {t i : Nat} (h : xGst I s t) (h1 : 1 ≤ t) (h9 : t ≤ 9) (hr : xRwAt (I 102) (gLn (cN s 0) t) 4 i (I 104)) : ∀ c, c < 4 → I 104 c = nI (gvI (cN s 0) t i c) ∧ gvI (cN s 0) t i c < 10 := fun c hc => by
  rw [hr c hc, (h.1 c hc).1]
  have hd : dgt (gLn (cN s 0) t) 4 i c < gLn (cN s 0) t c := Nat.mod_lt _ (by unfold gLn; split <;> omega)
  have hd : dgt (gLn (cN s 0) t) 4 i c < if c < cN s 0 then t else 1 := hd
  unfold gvI gLo
  by_cases hz : c < cN s 0
  · rw [if_pos hz] at hd
    rw [if_pos hz, if_pos hz]
    exact ⟨nI_add 1 _, by omega⟩
  · rw [if_neg hz] at hd
    rw [if_neg hz, if_neg hz]
    exact ⟨nI_add 0 _, by omega⟩
theorem xGst.gw {s : Nat → Int32} {t i : Nat} : ∀ c, c < 4 → (if c < cN s 0 ∧ 1 ≤ gvI (cN s 0) t i c then wb s c (gvI (cN s 0) t i c) else 0) = gwV s (gvI (cN s 0) t i) c := fun c hc => by
  unfold gwV
  by_cases hz : c < cN s 0
  · rw [if_pos hz, if_pos ⟨hz, by unfold gvI; rw [if_pos hz]; omega⟩]
  · rw [if_neg hz, if_neg (fun y => hz y.1)]
theorem xTk_r {f g : Nat → Int32} {m j : Nat} (h : j < m) : xTk f g m j = f j := if_pos h
/-- of two worths: 0 less, 1 alike, 2 more -/
def cmN (x z : Int32) : Nat := if x < z then 0 else if x = z then 1 else 2
theorem cmN_lt {x z : Int32} : cmN x z < 3 := by unfold cmN; split; decide; split <;> decide
theorem oc_e {a b : Nat} {x z : Int32} : (nI a * 4 + nI b) * 3 + (if x < z then (-1 : Int32) else if x = z then 0 else 1) + 1 = nI ((a * 4 + b) * 3 + cmN x z) := by
  rw [show nI a * (4 : Int32) = nI (a * 4) from pk_mul a 4, nI_add, show nI (a * 4 + b) * (3 : Int32) = nI ((a * 4 + b) * 3) from pk_mul _ 3]
  unfold cmN
  by_cases h : x < z
  · rw [if_pos h, if_pos h, Int32.add_assoc, show (-1 : Int32) + 1 = 0 by decide, Int32.add_zero]; rfl
  · rw [if_neg h, if_neg h]
    by_cases h2 : x = z
    · rw [if_pos h2, if_pos h2, Int32.add_zero, nI_1]
    · rw [if_neg h2, if_neg h2, nI_1, nI_1]
set_option maxHeartbeats 4000000 in
set_option maxRecDepth 100000 in
theorem j_fill {g : xG} {nx : Nat} {sh : Nat → Nat × Nat} {P : Nat → Nat → Option Nat} {I : Nat → Nat → Int32} {a len : Nat} {v : Int32} (ha : sh a = (12, len)) (hlen : len ≤ 1000) : xMet g Y_J_7_fill_53178 0 0 0 [.ref a, .int v] (nx, sh, P, I) (fun r σ => r = none ∧ σ = (nx, sh, P, va_up I a (flF (I a) v len))) := by
  refine xMet.of [some (.ref a), some (.int v), none, none] (by decide +kernel) (Nat.le_of_ble_eq_true rfl) rfl ?_
  refine x_iconst (v := 0) dJ7_fill_53178_0 (by decide) ?_
  refine x_istore_n dJ7_fill_53178_1 (Nat.le_of_ble_eq_true rfl) ?_
  try simp only [xst, xst2, xclr, xset, xwide]
  refine x_aload_n dJ7_fill_53178_2 rfl ?_
  refine y_alen dJ7_fill_53178_3 ha (by decide) ?_
  refine x_istore_n dJ7_fill_53178_4 (Nat.le_of_ble_eq_true rfl) ?_
  try simp only [xst, xst2, xclr, xset, xwide]
  refine y_st (I' := va_up I a (flF (I a) v 0)) (by rw [flF_0]; exact va_up_id.symm) ?_
  have K5 : ∀ (fuel : Nat) (i : Nat) (hi : i ≤ len), len - i < fuel → xX g Y_J_7_fill_53178 0 0 0 (fun r σ => r = none ∧ σ = (nx, sh, P, va_up I a (flF (I a) v len))) 5 [some (.ref a), some (.int v), some (.int (nI i)), some (.int (nI len))] [] (nx, sh, P, va_up I a (flF (I a) v i)) := by
    intro fuel
    induction fuel with
    | zero => intro i hi hm; exact absurd hm (Nat.not_lt_zero _)
    | succ fuel ih5 =>
      intro i hi hm
      refine x_iload_n dJ7_fill_53178_5 rfl ?_
      refine x_iload_n dJ7_fill_53178_6 rfl ?_
      refine x_icmp_ge (tgt := 20) dJ7_fill_53178_7 rfl (fun c7 => ?_) (fun c7 => ?_)
      · have hie : i = len := cge_t (by omega) hi c7
        refine x_return dJ7_fill_53178_20 rfl ?_
        subst hie
        exact ⟨rfl, rfl⟩
      · have him : i < len := cge_f (by omega) hi c7
        refine x_aload_n dJ7_fill_53178_10 rfl ?_
        refine x_iload_n dJ7_fill_53178_11 rfl ?_
        refine x_iload_n dJ7_fill_53178_12 rfl ?_
        refine y_iastore dJ7_fill_53178_13 ha (vi rfl him (by omega)) (ci rfl (by omega)) ?_
        rw [xup_row, flF_s]
        refine x_iinc (v := (nI (i + 1))) dJ7_fill_53178_14 rfl (nI_1 _) (Nat.le_of_ble_eq_true rfl) ?_
        try simp only [xst, xst2, xclr, xset, xwide]
        refine x_goto (tgt := 5) dJ7_fill_53178_17 rfl ?_
        exact ih5 (i + 1) (by omega) (by omega)
  exact K5 _ 0 (Nat.zero_le _) (Nat.lt_succ_self _)

set_option maxHeartbeats 4000000 in
set_option maxRecDepth 100000 in
theorem m_Guesses_start {g : xG} {nx : Nat} {sh : Nat → Nat × Nat} {P : Nat → Nat → Option Nat} {I : Nat → Nat → Int32} (hx : xFx sh P) {s : Nat → Int32} (hW : xWN nx sh P I s) (hR : RI s) {t : Nat} (ht : tpN s = nI t) (ht1 : 1 ≤ t) (ht9 : t ≤ 9) : xMet g Y_Guesses_start 4 0 0 [.ref 100] (nx, sh, P, I) (fun r σ => ∃ I1 : Nat → Nat → Int32, r = some (.int (nI (sfx (gLn (cN s 0) t) 4 0))) ∧ σ = (nx, sh, P, I1) ∧ xFrm [80, 102, 103, 104, 105] I I1 ∧ xGst I1 s t ∧ xRwAt (I1 102) (gLn (cN s 0) t) 4 0 (I1 104)) := by
  refine xMet.of [some (.ref 100), none, none, none, none, none, none] (by decide +kernel) (Nat.le_of_ble_eq_true rfl) rfl ?_
  obtain ⟨⟨tTape, tCoins, tWares, tBuys, tSlates, tPlans, tBooked⟩, ⟨cTape, cCoins, cWares, cBuys, cSlates, cPlans, cBooked⟩, hW7, hW9, hL⟩ := id hW
  obtain ⟨⟨n0, b0, e0⟩, ⟨n1, b1, e1⟩, ⟨n2, b2, e2⟩, ⟨n3, b3, e3⟩, ⟨n4, b4, e4⟩, ⟨n5, b5, e5⟩, ⟨n6, b6, e6⟩, ⟨n7, b7, e7⟩, ⟨n9, b9, e9⟩⟩ := hR.k
  have k7 : cN s 7 = n7 := cN_of e7 (by omega)
  rw [k7] at tTape cTape
  have k0 : cN s 0 = n0 := cN_of e0 (by omega)
  rw [k0] at tCoins cCoins
  have k1 : cN s 1 = n1 := cN_of e1 (by omega)
  rw [k1] at tWares cWares
  have k3 : cN s 3 = n3 := cN_of e3 (by omega)
  rw [k3] at tBuys cBuys
  have k4 : cN s 4 = n4 := cN_of e4 (by omega)
  rw [k4] at tSlates cSlates
  have k5 : cN s 5 = n5 := cN_of e5 (by omega)
  rw [k5] at tPlans cPlans
  have k6 : cN s 6 = n6 := cN_of e6 (by omega)
  rw [k6] at tBooked cBooked
  refine x_aload_n dX3_start_0 rfl ?_
  refine y_getr dX3_start_1 F_Guesses_37 (fxo_100 hx) rfl (fxp_100_0 hx) ?_
  refine x_callV (k2 := 0) (n2 := 0) dX3_start_4 LV_Guesses_41 (m_World_top hx hL) rfl rfl (fxo_65 hx) rfl (Nat.le_of_ble_eq_true rfl) (Nat.le_of_ble_eq_true rfl) (Nat.le_of_ble_eq_true rfl) (Nat.le_of_ble_eq_true rfl) ?_
  rintro _ _ ⟨rfl, rfl⟩
  rw [ht]
  refine x_istore_n dX3_start_7 (Nat.le_of_ble_eq_true rfl) ?_
  try simp only [xst, xst2, xclr, xset, xwide]
  refine x_iconst (v := 0) dX3_start_8 (by decide) ?_
  refine x_istore_n dX3_start_9 (Nat.le_of_ble_eq_true rfl) ?_
  try simp only [xst, xst2, xclr, xset, xwide]
  have K10 : ∀ (fuel : Nat) (i : Nat) (v3 v4 v5 v6 : Option Value) (I2 : Nat → Nat → Int32) (hi : i ≤ 4) (hF : xFrm [80, 102, 103, 105] I I2) (hB : ∀ c, c < i → I2 102 c = gLo (cN s 0) c ∧ I2 103 c = gHi (cN s 0) t c) (hT : ∀ c b, c < i → b < 10 → I2 105 (10 * c + b) = (if c < cN s 0 ∧ 1 ≤ b then wb s c b else 0)), 4 - i < fuel → xX g Y_Guesses_start 4 0 0 (fun r σ => ∃ I1 : Nat → Nat → Int32, r = some (.int (nI (sfx (gLn (cN s 0) t) 4 0))) ∧ σ = (nx, sh, P, I1) ∧ xFrm [80, 102, 103, 104, 105] I I1 ∧ xGst I1 s t ∧ xRwAt (I1 102) (gLn (cN s 0) t) 4 0 (I1 104)) 10 [some (.ref 100), some (.int (nI t)), some (.int (nI i)), v3, v4, v5, v6] [] (nx, sh, P, I2) := by
    intro fuel
    induction fuel with
    | zero => intro i v3 v4 v5 v6 I2 hi hF hB hT hm; exact absurd hm (Nat.not_lt_zero _)
    | succ fuel ih10 =>
      intro i v3 v4 v5 v6 I2 hi hF hB hT hm
      have tC2 : xTb sh P I2 68 69 8 4 n0 := tCoins.other (hF 68 (by decide))
      have e69 : I2 69 = I 69 := hF 69 (by decide)
      obtain ⟨pv, hpv⟩ : ∃ pv, pv = (if i < n0 then s (22 + i) else 0) := ⟨_, rfl⟩
      refine x_iload_n dX3_start_10 rfl ?_
      refine x_iconst (v := 4) dX3_start_11 (by decide) ?_
      refine x_icmp_ge (tgt := 147) dX3_start_12 rfl (fun c12 => ?_) (fun c12 => ?_)
      · have hie : i = 4 := cge_t (by decide) hi c12
        refine x_aload_n dX3_start_147 rfl ?_
        refine y_getr dX3_start_148 F_Guesses_14 (fxo_100 hx) rfl (fxp_100_1 hx) ?_
        refine x_callV (k2 := 0) (n2 := 0) dX3_start_151 LV_Guesses_72 (m_Rows_start (I := I2) (xrG hx)) rfl rfl (fxo_101 hx) rfl (Nat.le_of_ble_eq_true rfl) (Nat.le_of_ble_eq_true rfl) (Nat.le_of_ble_eq_true rfl) (Nat.le_of_ble_eq_true rfl) ?_
        rintro _ _ ⟨rfl, rfl⟩
        subst hie
        have hg : xGst I2 s t := ⟨hB, hT⟩
        rw [xPr_a (hg.lh ht1 ht9)]
        refine x_ireturn dX3_start_154 rfl nb_int ?_
        exact ⟨_, rfl, rfl, xFrv (hF.mono), ⟨fun c hc => by rw [va_up_no (by decide), va_up_no (by decide)]; exact hB c hc, fun c b hc hb => by rw [va_up_no (by decide)]; exact hT c b hc hb⟩, xRwAt.z (fun c hc => by rw [va_up_at, va_up_no (by decide)]; exact xTk_r hc)⟩
      · have him : i < 4 := cge_f (by decide) hi c12
        refine x_aload_n dX3_start_15 rfl ?_
        refine y_getr dX3_start_16 F_Guesses_37 (fxo_100 hx) rfl (fxp_100_0 hx) ?_
        refine y_getr dX3_start_19 F_Guesses_47 (fxo_65 hx) rfl (fxp_65_1 hx) ?_
        refine x_iload_n dX3_start_22 rfl ?_
        refine x_callV (k2 := 0) (n2 := 0) dX3_start_23 LV_Guesses_51 (m_Table_has tC2) rfl rfl (fxo_68 hx) rfl (Nat.le_of_ble_eq_true rfl) (Nat.le_of_ble_eq_true rfl) (Nat.le_of_ble_eq_true rfl) (Nat.le_of_ble_eq_true rfl) ?_
        rintro _ _ ⟨rfl, rfl⟩
        rw [hsN (by omega) (by omega)]
        refine x_istore_n dX3_start_26 (Nat.le_of_ble_eq_true rfl) ?_
        try simp only [xst, xst2, xclr, xset, xwide]
        refine x_aload_n dX3_start_27 rfl ?_
        refine y_getr dX3_start_28 F_Guesses_37 (fxo_100 hx) rfl (fxp_100_0 hx) ?_
        refine y_getr dX3_start_31 F_Guesses_47 (fxo_65 hx) rfl (fxp_65_1 hx) ?_
        refine x_iload_n dX3_start_34 rfl ?_
        refine x_iconst (v := 3) dX3_start_35 (by decide) ?_
        refine x_callV (k2 := 0) (n2 := 0) dX3_start_36 LV_Guesses_57 (m_Table_get tC2 (x := nI i) (z := nI 3)) rfl rfl (fxo_68 hx) rfl (Nat.le_of_ble_eq_true rfl) (Nat.le_of_ble_eq_true rfl) (Nat.le_of_ble_eq_true rfl) (Nat.le_of_ble_eq_true rfl) ?_
        rintro _ _ ⟨rfl, rfl⟩
        rw [show xTg I2 69 8 n0 (nI i) (nI 3) = pv from by
          rw [hpv]
          by_cases hz : i < n0
          · rw [xTg_in hz (by decide) (by omega) (by decide), if_pos hz, e69]; exact (cCoins i hz).2.2.2.1
          · rw [xTg_out (by omega) (by omega), if_neg hz]]
        refine x_istore dX3_start_39 (Nat.le_of_ble_eq_true rfl) ?_
        try simp only [xst, xst2, xclr, xset, xwide]
        have J64 : ∀ (a2 b2 : Int32) (ha2 : a2 = gLo n0 i) (hb2 : b2 = gHi n0 t i), xX g Y_Guesses_start 4 0 0 (fun r σ => ∃ I1 : Nat → Nat → Int32, r = some (.int (nI (sfx (gLn (cN s 0) t) 4 0))) ∧ σ = (nx, sh, P, I1) ∧ xFrm [80, 102, 103, 104, 105] I I1 ∧ xGst I1 s t ∧ xRwAt (I1 102) (gLn (cN s 0) t) 4 0 (I1 104)) 64 [some (.ref 100), some (.int (nI t)), some (.int (nI i)), some (.int (bv (decide (i < n0)))), some (.int pv), v5, v6] [.int b2, .int a2, .int (nI i), .ref 101] (nx, sh, P, I2) := by
          intro a2 b2 ha2 hb2
          refine x_callV (k2 := 0) (n2 := 0) dX3_start_64 LV_Guesses_61 (m_Rows_bound (xrG hx) (p := i) him) rfl rfl (fxo_101 hx) rfl (Nat.le_of_ble_eq_true rfl) (Nat.le_of_ble_eq_true rfl) (Nat.le_of_ble_eq_true rfl) (Nat.le_of_ble_eq_true rfl) ?_
          rintro _ _ ⟨rfl, rfl⟩
          refine x_iconst (v := 0) dX3_start_67 (by decide) ?_
          refine x_istore dX3_start_68 (Nat.le_of_ble_eq_true rfl) ?_
          try simp only [xst, xst2, xclr, xset, xwide]
          have K70 : ∀ (fuel : Nat) (b : Nat) (v6 : Option Value) (I3 : Nat → Nat → Int32) (hb : b ≤ 10) (hF3 : xFrm [80, 102, 103, 105] I I3) (hB3 : ∀ c, c < i + 1 → I3 102 c = gLo (cN s 0) c ∧ I3 103 c = gHi (cN s 0) t c) (hT3 : ∀ c b1, (c < i ∨ (c = i ∧ b1 < b)) → b1 < 10 → I3 105 (10 * c + b1) = (if c < cN s 0 ∧ 1 ≤ b1 then wb s c b1 else 0)), 10 - b < fuel → xX g Y_Guesses_start 4 0 0 (fun r σ => ∃ I1 : Nat → Nat → Int32, r = some (.int (nI (sfx (gLn (cN s 0) t) 4 0))) ∧ σ = (nx, sh, P, I1) ∧ xFrm [80, 102, 103, 104, 105] I I1 ∧ xGst I1 s t ∧ xRwAt (I1 102) (gLn (cN s 0) t) 4 0 (I1 104)) 70 [some (.ref 100), some (.int (nI t)), some (.int (nI i)), some (.int (bv (decide (i < n0)))), some (.int pv), some (.int (nI b)), v6] [] (nx, sh, P, I3) := by
            intro fuel
            induction fuel with
            | zero => intro b v6 I3 hb hF3 hB3 hT3 hm; exact absurd hm (Nat.not_lt_zero _)
            | succ fuel ih70 =>
              intro b v6 I3 hb hF3 hB3 hT3 hm
              refine x_iload dX3_start_70 rfl ?_
              refine x_bipush (v := 10) dX3_start_72 (by decide) ?_
              refine x_icmp_ge (tgt := 141) dX3_start_74 rfl (fun c74 => ?_) (fun c74 => ?_)
              · have hie : b = 10 := cge_t (by decide) hb c74
                refine x_iinc (v := (nI (i + 1))) dX3_start_141 rfl (nI_1 _) (Nat.le_of_ble_eq_true rfl) ?_
                try simp only [xst, xst2, xclr, xset, xwide]
                refine x_goto (tgt := 10) dX3_start_144 rfl ?_
                exact ih10 (i + 1) _ _ _ _ _ (by omega) hF3 (fun c hc => hB3 c (by omega)) (fun c b hc hb => hT3 c b (by omega) hb) (by omega)
              · have hbm : b < 10 := cge_f (by decide) hb c74
                refine x_iload_n dX3_start_77 rfl ?_
                refine x_bipush (v := 10) dX3_start_78 (by decide) ?_
                refine x_imul dX3_start_80 ?_
                refine x_iload dX3_start_81 rfl ?_
                refine x_iadd dX3_start_83 ?_
                rw [show nI i * (10 : Int32) + nI b = nI (10 * i + b) from by rw [show nI i * (10 : Int32) = nI (i * 10) from pk_mul i 10, nI_add, Nat.mul_comm]]
                refine x_istore dX3_start_84 (Nat.le_of_ble_eq_true rfl) ?_
                try simp only [xst, xst2, xclr, xset, xwide]
                have J134 : ∀ (v : Int32) (I4 : Nat → Nat → Int32) (hF4 : xFrm [80] I3 I4) (hv : v = if i < n0 ∧ 1 ≤ b then wb s i b else 0), xX g Y_Guesses_start 4 0 0 (fun r σ => ∃ I1 : Nat → Nat → Int32, r = some (.int (nI (sfx (gLn (cN s 0) t) 4 0))) ∧ σ = (nx, sh, P, I1) ∧ xFrm [80, 102, 103, 104, 105] I I1 ∧ xGst I1 s t ∧ xRwAt (I1 102) (gLn (cN s 0) t) 4 0 (I1 104)) 134 [some (.ref 100), some (.int (nI t)), some (.int (nI i)), some (.int (bv (decide (i < n0)))), some (.int pv), some (.int (nI b)), some (.int (nI (10 * i + b)))] [.int v, .int (nI (10 * i + b)), .ref 105] (nx, sh, P, I4) := by
                  intro v I4 hF4 hv
                  refine y_iastore dX3_start_134 (fxk_105 hx) (vi rfl (show 10 * i + b < 40 by omega) (by decide)) (ci rfl (by omega)) ?_
                  refine x_iinc (v := (nI (b + 1))) dX3_start_135 rfl (nI_1 _) (Nat.le_of_ble_eq_true rfl) ?_
                  try simp only [xst, xst2, xclr, xset, xwide]
                  refine x_goto (tgt := 70) dX3_start_138 rfl ?_
                  exact ih70 (b + 1) _ _ (by omega) (xFrs (hF3.tr (l1 := [80, 102, 103, 105]) (l2 := [80]) hF4)) (fun c hc => by rw [xo (by decide), xo (by decide), hF4 102 (by decide), hF4 103 (by decide)]; exact hB3 c hc) (fun c b1 hc hb1 => by
                    rw [xup_at]
                    by_cases hz : 10 * c + b1 = 10 * i + b
                    · rw [if_pos ⟨rfl, hz⟩]
                      have h3 : c = i ∧ b1 = b := by omega
                      rw [h3.1, h3.2, hv, k0]
                    · rw [if_neg (fun y => hz y.2), hF4 105 (by decide)]; exact hT3 c b1 (by omega) hb1) (by omega)
                refine x_iload dX3_start_86 rfl ?_
                refine x_aload_n dX3_start_88 rfl ?_
                refine y_getr dX3_start_89 F_Guesses_20 (fxo_100 hx) rfl (fxp_100_2 hx) ?_
                refine y_alen dX3_start_92 (fxk_105 hx) (by decide) ?_
                refine x_icmp_ge (tgt := 135) dX3_start_93 rfl (fun c93 => ?_) (fun c93 => ?_)
                · exact absurd ((nI_leI (by decide) (by omega)).mp c93) (by omega)
                · refine x_aload_n dX3_start_96 rfl ?_
                  refine y_getr dX3_start_97 F_Guesses_20 (fxo_100 hx) rfl (fxp_100_2 hx) ?_
                  refine x_iload dX3_start_100 rfl ?_
                  refine x_iload_n dX3_start_102 rfl ?_
                  refine x_if_eq (tgt := 133) dX3_start_103 rfl (fun c103 => ?_) (fun c103 => ?_)
                  · refine x_iconst (v := 0) dX3_start_133 (by decide) ?_
                    first
                    | (have h9 := of_decide_eq_false (bv_0 c103); exact J134 _ _ xFrm.rf (by rw [if_neg (fun y => h9 y.1)]))
                    | (have h9 := (nI_le0 (by omega)).mp c108; exact J134 _ _ xFrm.rf (by rw [if_neg (fun y => by omega)]))
                    | exact J134 _ _ (xFrv xFrm.rf) hvv
                  · have hin : i < n0 := of_decide_eq_true (bv_1 c103)
                    have hinc : i < cN s 0 := by rw [k0]; exact hin
                    obtain ⟨p, hp9, hp⟩ := pu_of hR hinc
                    obtain ⟨dy, hdy, hd⟩ := hR.dy
                    have hpv2 : pv = s (22 + i) := by rw [hpv, if_pos hin]
                    refine x_iload dX3_start_106 rfl ?_
                    refine x_if_le (tgt := 133) dX3_start_108 rfl (fun c108 => ?_) (fun c108 => ?_)
                    · refine x_iconst (v := 0) dX3_start_133 (by decide) ?_
                      first
                      | (have h9 := of_decide_eq_false (bv_0 c103); exact J134 _ _ xFrm.rf (by rw [if_neg (fun y => h9 y.1)]))
                      | (have h9 := (nI_le0 (by omega)).mp c108; exact J134 _ _ xFrm.rf (by rw [if_neg (fun y => by omega)]))
                      | exact J134 _ _ (xFrv xFrm.rf) hvv
                    · have hb0 : 1 ≤ b := by rcases Nat.eq_zero_or_pos b with z | z; exact absurd (by rw [z]; decide) c108; exact z
                      refine x_aload_n dX3_start_111 rfl ?_
                      refine y_getr dX3_start_112 F_Guesses_37 (fxo_100 hx) rfl (fxp_100_0 hx) ?_
                      refine x_iload_n dX3_start_115 rfl ?_
                      refine x_iload dX3_start_116 rfl ?_
                      refine x_iload dX3_start_118 rfl ?_
                      refine x_aload_n dX3_start_120 rfl ?_
                      refine y_getr dX3_start_121 F_Guesses_37 (fxo_100 hx) rfl (fxp_100_0 hx) ?_
                      refine y_geti dX3_start_124 F_Guesses_65 (fxo_65 hx) rfl ((congrFun (hF3 65 (by decide)) 9).trans hW9) ?_
                      refine x_callV (k2 := 0) (n2 := 0) dX3_start_127 LV_Guesses_68 (m_World_worthAs (I := I3) hx (hW.fl hF3) hR hinc (b := b) rfl (by omega) (hpv2.trans hp) hp9 hd hdy) rfl rfl (fxo_65 hx) rfl (Nat.le_of_ble_eq_true rfl) (Nat.le_of_ble_eq_true rfl) (Nat.le_of_ble_eq_true rfl) (Nat.le_of_ble_eq_true rfl) ?_
                      rintro _ _ ⟨F, rfl, rfl⟩
                      have hvv : wo s i (nI b) pv (s 9) = if i < n0 ∧ 1 ≤ b then wb s i b else 0 := by rw [if_pos ⟨hin, hb0⟩, hpv2]; rfl
                      refine x_goto (tgt := 134) dX3_start_130 rfl ?_
                      first
                      | (have h9 := of_decide_eq_false (bv_0 c103); exact J134 _ _ xFrm.rf (by rw [if_neg (fun y => h9 y.1)]))
                      | (have h9 := (nI_le0 (by omega)).mp c108; exact J134 _ _ xFrm.rf (by rw [if_neg (fun y => by omega)]))
                      | exact J134 _ _ (xFrv xFrm.rf) hvv
          exact K70 _ 0 _ (xup (xup I2 102 i a2) 103 i b2) (by decide) (xFrs (xFrs hF)) (fun c hc => by
            by_cases hci : c = i
            · subst hci; exact ⟨by rw [xo (by decide), xs, ha2, k0], by rw [xs, hb2, k0]⟩
            · exact ⟨by rw [xo (by decide), xf hci]; exact (hB c (by omega)).1, by rw [xf hci, xo (by decide)]; exact (hB c (by omega)).2⟩) (fun c b1 hc hb1 => by rw [xo (by decide), xo (by decide)]; exact hT c b1 (by omega) hb1) (Nat.lt_succ_self _)
        refine x_aload_n dX3_start_41 rfl ?_
        refine y_getr dX3_start_42 F_Guesses_14 (fxo_100 hx) rfl (fxp_100_1 hx) ?_
        refine x_iload_n dX3_start_45 rfl ?_
        refine x_iload_n dX3_start_46 rfl ?_
        refine x_if_eq (tgt := 54) dX3_start_47 rfl (fun c47 => ?_) (fun c47 => ?_)
        · refine x_iconst (v := 0) dX3_start_54 (by decide) ?_
          refine x_iload_n dX3_start_55 rfl ?_
          refine x_if_eq (tgt := 63) dX3_start_56 rfl (fun c56 => ?_) (fun c56 => ?_)
          · refine x_iconst (v := 0) dX3_start_63 (by decide) ?_
            first
            | (have h9 := of_decide_eq_true (bv_1 c47); have h8 := of_decide_eq_true (bv_1 c56); exact J64 _ _ (by unfold gLo; rw [if_pos h9]) (by unfold gHi; rw [if_pos h9]))
            | (have h9 := of_decide_eq_false (bv_0 c47); have h8 := of_decide_eq_false (bv_0 c56); exact J64 _ _ (by unfold gLo; rw [if_neg h9]) (by unfold gHi; rw [if_neg h9]))
            | exact absurd c47 c56
            | exact absurd c56 c47
          · refine x_iload_n dX3_start_59 rfl ?_
            refine x_goto (tgt := 64) dX3_start_60 rfl ?_
            first
            | (have h9 := of_decide_eq_true (bv_1 c47); have h8 := of_decide_eq_true (bv_1 c56); exact J64 _ _ (by unfold gLo; rw [if_pos h9]) (by unfold gHi; rw [if_pos h9]))
            | (have h9 := of_decide_eq_false (bv_0 c47); have h8 := of_decide_eq_false (bv_0 c56); exact J64 _ _ (by unfold gLo; rw [if_neg h9]) (by unfold gHi; rw [if_neg h9]))
            | exact absurd c47 c56
            | exact absurd c56 c47
        · refine x_iconst (v := 1) dX3_start_50 (by decide) ?_
          refine x_goto (tgt := 55) dX3_start_51 rfl ?_
          refine x_iload_n dX3_start_55 rfl ?_
          refine x_if_eq (tgt := 63) dX3_start_56 rfl (fun c56 => ?_) (fun c56 => ?_)
          · refine x_iconst (v := 0) dX3_start_63 (by decide) ?_
            first
            | (have h9 := of_decide_eq_true (bv_1 c47); have h8 := of_decide_eq_true (bv_1 c56); exact J64 _ _ (by unfold gLo; rw [if_pos h9]) (by unfold gHi; rw [if_pos h9]))
            | (have h9 := of_decide_eq_false (bv_0 c47); have h8 := of_decide_eq_false (bv_0 c56); exact J64 _ _ (by unfold gLo; rw [if_neg h9]) (by unfold gHi; rw [if_neg h9]))
            | exact absurd c47 c56
            | exact absurd c56 c47
          · refine x_iload_n dX3_start_59 rfl ?_
            refine x_goto (tgt := 64) dX3_start_60 rfl ?_
            first
            | (have h9 := of_decide_eq_true (bv_1 c47); have h8 := of_decide_eq_true (bv_1 c56); exact J64 _ _ (by unfold gLo; rw [if_pos h9]) (by unfold gHi; rw [if_pos h9]))
            | (have h9 := of_decide_eq_false (bv_0 c47); have h8 := of_decide_eq_false (bv_0 c56); exact J64 _ _ (by unfold gLo; rw [if_neg h9]) (by unfold gHi; rw [if_neg h9]))
            | exact absurd c47 c56
            | exact absurd c56 c47
  exact K10 _ 0 none none none none I (by decide) xFrm.rf (fun c h => absurd h (Nat.not_lt_zero c)) (fun c b h => absurd h (Nat.not_lt_zero c)) (Nat.lt_succ_self _)
