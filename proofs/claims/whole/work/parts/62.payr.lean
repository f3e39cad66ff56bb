/-! the class: paying -/
/-- WORTHS by a purse -/
def pwV (s : Nat → Int32) (pu : Nat → Nat) (c : Nat) : Int32 := if c < cN s 0 then wo s c (s (18 + c)) (nI (pu c)) (s 9) else 0
theorem pwV_s {s : Nat → Int32} (hR : RI s) {c : Nat} : pwV s (puN s) c = wv s c := by
  unfold pwV wv
  by_cases h : c < cN s 0
  · rw [if_pos h, if_pos h]
    obtain ⟨p, hp, hp2⟩ := pu_of hR h
    unfold puN wc
    rw [if_pos h, hp2, nI_clamp (by omega)]
  · rw [if_neg h, if_neg h]
def pyB (n back c : Nat) : Int32 := if c < n then -nI back else 0
def pyLn (n back : Nat) (pu : Nat → Nat) (c : Nat) : Nat := bkN n back c + pu c + 1
/-- number c of row i, when paying -/
def pyV (n back : Nat) (pu : Nat → Nat) (i c : Nat) : Int32 := pyB n back c + nI (dgt (pyLn n back pu) 4 i c)
theorem pyB_e {n back c : Nat} : pyB n back c = -nI (bkN n back c) := by
  unfold pyB bkN
  by_cases h : c < n
  · rw [if_pos h, if_pos h]
  · rw [if_neg h, if_neg h]; rfl
theorem py_lh {I : Nat → Nat → Int32} {n back : Nat} {pu : Nat → Nat} (hbk : back ≤ 3) (hb : ∀ c, c < 4 → I 113 c = pyB n back c ∧ I 114 c = nI (pu c)) (hpu : ∀ c, c < 4 → pu c ≤ 9) : xLH (I 113) (I 114) (pyLn n back pu) 4 := fun c hc => by
  obtain ⟨e1, e2⟩ := hb c hc
  have hp := hpu c hc
  have hbc : bkN n back c ≤ 3 := by unfold bkN; split <;> omega
  have e3 : (pyB n back c).toInt = -(bkN n back c : Int) := by
    rw [pyB_e, ← Int32.zero_sub]
    rw [i_sub (show (0 : Int32).toInt = 0 from rfl) (nI_toInt (by omega)) (by omega) (by omega)]
    omega
  rw [e1, e2, nI_toInt (by omega), e3]
  unfold pyLn
  omega
theorem py_n {n back : Nat} {pu : Nat → Nat} (hbk : back ≤ 3) (hpu : ∀ c, c < 4 → pu c ≤ 9) : sfx (pyLn n back pu) 4 0 ≤ 28561 := by
  have hl : ∀ c, c < 4 → pyLn n back pu c ≤ 13 := fun c hc => by
    have h1 := hpu c hc
    have h2 : bkN n back c ≤ 3 := by unfold bkN; split <;> omega
    unfold pyLn; omega
  have h0 := hl 0 (by decide)
  have h1 := hl 1 (by decide)
  have h2 := hl 2 (by decide)
  have h3 := hl 3 (by decide)
  show pyLn n back pu 0 * (pyLn n back pu 1 * (pyLn n back pu 2 * (pyLn n back pu 3 * 1))) ≤ 13 * (13 * (13 * (13 * 1)))
  exact Nat.mul_le_mul h0 (Nat.mul_le_mul h1 (Nat.mul_le_mul h2 (Nat.mul_le_mul h3 (Nat.le_refl 1))))
/-- what stands in the class when paying may begin -/
def xPy (I : Nat → Nat → Int32) (s : Nat → Int32) (pu : Nat → Nat) : Prop := ∀ c, c < 4 → I 110 c = nI (pu c) ∧ pu c ≤ 9 ∧ I 111 c = pwV s pu c
def smV (w : Nat → Int32) (v : Nat → Int32) : Int32 := xSm v w 0 4
/-- the fewest of the first i rows, and which -/
def fwS (w : Nat → Int32) (v : Nat → Nat → Int32) (p : Int32) (b0 : Nat → Int32) : Nat → Int32 × (Nat → Int32)
  | 0 => (-5, b0)
  | i + 1 => if smV w (v i) = p ∧ ((fwS w v p b0 i).1 = -5 ∨ xSz (v i) 4 < (fwS w v p b0 i).1) then (xSz (v i) 4, xTk (v i) (fwS w v p b0 i).2 4) else fwS w v p b0 i
theorem fwS_s {w : Nat → Int32} {v : Nat → Nat → Int32} {p : Int32} {b0 : Nat → Int32} {i : Nat} : fwS w v p b0 (i + 1) = if smV w (v i) = p ∧ ((fwS w v p b0 i).1 = -5 ∨ xSz (v i) 4 < (fwS w v p b0 i).1) then (xSz (v i) 4, xTk (v i) (fwS w v p b0 i).2 4) else fwS w v p b0 i := rfl
def wyS (w : Nat → Int32) (v : Nat → Nat → Int32) (p : Int32) : Nat → Int32
  | 0 => 0
  | i + 1 => if smV w (v i) = p then wyS w v p i + 1 else wyS w v p i
theorem xSm_c {f f' g g' : Nat → Int32} {a : Nat} : ∀ m, (∀ j, j < m → f (a + j) = f' (a + j)) → (∀ j, j < m → g j = g' j) → xSm f g a m = xSm f' g' a m
  | 0, _, _ => rfl
  | m + 1, h, h2 => by rw [xSm_s, xSm_s, xSm_c m (fun j hj => h j (by omega)) (fun j hj => h2 j (by omega)), h m (by omega), h2 m (by omega)]
theorem xSz_c {f f' : Nat → Int32} : ∀ m, (∀ j, j < m → f j = f' j) → xSz f m = xSz f' m
  | 0, _ => rfl
  | m + 1, h => by
    show xSz f m + _ = xSz f' m + _
    rw [xSz_c m (fun j hj => h j (by omega)), h m (by omega)]
theorem xTk_c {f f' g : Nat → Int32} {m : Nat} (h : ∀ j, j < m → f j = f' j) : xTk f g m = xTk f' g m := by
  funext j; unfold xTk
  by_cases hj : j < m
  · rw [if_pos hj, if_pos hj, h j hj]
  · rw [if_neg hj, if_neg hj]
theorem py_at {I : Nat → Nat → Int32} {n back i : Nat} {pu : Nat → Nat} (hb : ∀ c, c < 4 → I 113 c = pyB n back c ∧ I 114 c = nI (pu c)) (hr : xRwAt (I 113) (pyLn n back pu) 4 i (I 115)) : ∀ c, c < 4 → I 115 c = pyV n back pu i c := fun c hc => by rw [hr c hc, (hb c hc).1]; rfl
set_option maxHeartbeats 4000000 in
set_option maxRecDepth 100000 in
theorem m_Payer_weigh {g : xG} {nx : Nat} {sh : Nat → Nat × Nat} {P : Nat → Nat → Option Nat} {I : Nat → Nat → Int32} (hx : xFx sh P) {s : Nat → Int32} (hW : xWN nx sh P I s) (hR : RI s) {pu : Nat → Nat} (hpu : ∀ c, c < 4 → I 110 c = nI (pu c) ∧ pu c ≤ 9) : xMet g Y_Payer_weigh 4 0 0 [.ref 109] (nx, sh, P, I) (fun r σ => ∃ I1 : Nat → Nat → Int32, r = none ∧ σ = (nx, sh, P, I1) ∧ xFrm [80, 111] I I1 ∧ xPy I1 s pu) := by
  refine xMet.of [some (.ref 109), none, none] (by decide +kernel) (Nat.le_of_ble_eq_true rfl) rfl ?_
  obtain ⟨⟨tTape, tCoins, tWares, tBuys, tSlates, tPlans, tBooked⟩, ⟨cTape, cCoins, cWares, cBuys, cSlates, cPlans, cBooked⟩, hW7, hW9, hL⟩ := id hW
  obtain ⟨⟨n0, b0, e0⟩, ⟨n1, b1, e1⟩, ⟨n2, b2, e2⟩, ⟨n3, b3, e3⟩, ⟨n4, b4, e4⟩, ⟨n5, b5, e5⟩, ⟨n6, b6, e6⟩, ⟨n7, b7, e7⟩, ⟨n9, b9, e9⟩⟩ := hR.k
  have k7 : cN s 7 = n7 := cN_of e7 (by omega)
  rw [k7] at tTape cTape
  have k0 : cN s 0 = n0 := cN_of e0 (by omega)
  rw [k0] at tCoins cCoins
  have k1 : cN s 1 = n1 := cN_of e1 (by omega)
  rw [k1] at tWares cWares
  have k3 : cN s 3 = n3 := cN_of e3 (by omega)
  rw [k3] at tBuys cBuys
  have k4 : cN s 4 = n4 := cN_of e4 (by omega)
  rw [k4] at tSlates cSlates
  have k5 : cN s 5 = n5 := cN_of e5 (by omega)
  rw [k5] at tPlans cPlans
  have k6 : cN s 6 = n6 := cN_of e6 (by omega)
  rw [k6] at tBooked cBooked
  refine x_iconst (v := 0) dX5_weigh_0 (by decide) ?_
  refine x_istore_n dX5_weigh_1 (Nat.le_of_ble_eq_true rfl) ?_
  try simp only [xst, xst2, xclr, xset, xwide]
  have K2 : ∀ (fuel : Nat) (i : Nat) (v2 : Option Value) (I2 : Nat → Nat → Int32) (hi : i ≤ 4) (hF : xFrm [80, 111] I I2) (hw : ∀ c, c < i → I2 111 c = pwV s pu c), 4 - i < fuel → xX g Y_Payer_weigh 4 0 0 (fun r σ => ∃ I1 : Nat → Nat → Int32, r = none ∧ σ = (nx, sh, P, I1) ∧ xFrm [80, 111] I I1 ∧ xPy I1 s pu) 2 [some (.ref 109), some (.int (nI i)), v2] [] (nx, sh, P, I2) := by
    intro fuel
    induction fuel with
    | zero => intro i v2 I2 hi hF hw hm; exact absurd hm (Nat.not_lt_zero _)
    | succ fuel ih2 =>
      intro i v2 I2 hi hF hw hm
      have tC2 : xTb sh P I2 68 69 8 4 n0 := tCoins.other (hF 68 (by decide))
      have e69 : I2 69 = I 69 := hF 69 (by decide)
      have e110 : I2 110 = I 110 := hF 110 (by decide)
      obtain ⟨bs, hbs⟩ : ∃ bs, bs = (if i < n0 then s (18 + i) else 0) := ⟨_, rfl⟩
      refine x_iload_n dX5_weigh_2 rfl ?_
      refine x_aload_n dX5_weigh_3 rfl ?_
      refine y_getr dX5_weigh_4 F_Payer_15 (fxo_109 hx) rfl (fxp_109_2 hx) ?_
      refine y_alen dX5_weigh_7 (fxk_111 hx) (by decide) ?_
      refine x_icmp_ge (tgt := 85) dX5_weigh_8 rfl (fun c8 => ?_) (fun c8 => ?_)
      · have hie : i = 4 := cge_t (by decide) hi c8
        refine x_return dX5_weigh_85 rfl ?_
        subst hie
        exact ⟨I2, rfl, rfl, hF, fun c hc => ⟨by rw [hF 110 (by decide)]; exact (hpu c hc).1, (hpu c hc).2, hw c hc⟩⟩
      · have him : i < 4 := cge_f (by decide) hi c8
        refine x_iload_n dX5_weigh_11 rfl ?_
        refine x_aload_n dX5_weigh_12 rfl ?_
        refine y_getr dX5_weigh_13 F_Payer_9 (fxo_109 hx) rfl (fxp_109_1 hx) ?_
        refine y_alen dX5_weigh_16 (fxk_110 hx) (by decide) ?_
        refine x_icmp_ge (tgt := 85) dX5_weigh_17 rfl (fun c17 => ?_) (fun c17 => ?_)
        · exact absurd ((nI_leI (by decide) (by omega)).mp c17) (by omega)
        · refine x_aload_n dX5_weigh_20 rfl ?_
          refine y_getr dX5_weigh_21 F_Payer_34 (fxo_109 hx) rfl (fxp_109_0 hx) ?_
          refine y_getr dX5_weigh_24 F_Payer_38 (fxo_65 hx) rfl (fxp_65_1 hx) ?_
          refine x_iload_n dX5_weigh_27 rfl ?_
          refine x_iconst (v := 2) dX5_weigh_28 (by decide) ?_
          refine x_callV (k2 := 0) (n2 := 0) dX5_weigh_29 LV_Payer_44 (m_Table_get tC2 (x := nI i) (z := nI 2)) rfl rfl (fxo_68 hx) rfl (Nat.le_of_ble_eq_true rfl) (Nat.le_of_ble_eq_true rfl) (Nat.le_of_ble_eq_true rfl) (Nat.le_of_ble_eq_true rfl) ?_
          rintro _ _ ⟨rfl, rfl⟩
          rw [show xTg I2 69 8 n0 (nI i) (nI 2) = bs from by
            rw [hbs]
            by_cases hz : i < n0
            · rw [xTg_in hz (by decide) (by omega) (by decide), if_pos hz, e69]; exact (cCoins i hz).2.2.1
            · rw [xTg_out (by omega) (by omega), if_neg hz]]
          refine x_istore_n dX5_weigh_32 (Nat.le_of_ble_eq_true rfl) ?_
          try simp only [xst, xst2, xclr, xset, xwide]
          have J78 : ∀ (v : Int32) (I4 : Nat → Nat → Int32) (hF4 : xFrm [80] I2 I4) (hv : v = pwV s pu i), xX g Y_Payer_weigh 4 0 0 (fun r σ => ∃ I1 : Nat → Nat → Int32, r = none ∧ σ = (nx, sh, P, I1) ∧ xFrm [80, 111] I I1 ∧ xPy I1 s pu) 78 [some (.ref 109), some (.int (nI i)), some (.int bs)] [.int v, .int (nI i), .ref 111] (nx, sh, P, I4) := by
            intro v I4 hF4 hv
            refine y_iastore dX5_weigh_78 (fxk_111 hx) (vi rfl him (by decide)) (ci rfl (by omega)) ?_
            refine x_iinc (v := (nI (i + 1))) dX5_weigh_79 rfl (nI_1 _) (Nat.le_of_ble_eq_true rfl) ?_
            try simp only [xst, xst2, xclr, xset, xwide]
            refine x_goto (tgt := 2) dX5_weigh_82 rfl ?_
            exact ih2 (i + 1) _ _ (by omega) (xFrs (hF.tr (l1 := [80, 111]) (l2 := [80]) hF4)) (fun c hc => by
              rw [xup_at]
              by_cases hci : c = i
              · rw [if_pos ⟨rfl, hci⟩, hci, hv]
              · rw [if_neg (fun y => hci y.2), hF4 111 (by decide)]; exact hw c (by omega)) (by omega)
          refine x_aload_n dX5_weigh_33 rfl ?_
          refine y_getr dX5_weigh_34 F_Payer_15 (fxo_109 hx) rfl (fxp_109_2 hx) ?_
          refine x_iload_n dX5_weigh_37 rfl ?_
          refine x_aload_n dX5_weigh_38 rfl ?_
          refine y_getr dX5_weigh_39 F_Payer_34 (fxo_109 hx) rfl (fxp_109_0 hx) ?_
          refine y_getr dX5_weigh_42 F_Payer_38 (fxo_65 hx) rfl (fxp_65_1 hx) ?_
          refine x_iload_n dX5_weigh_45 rfl ?_
          refine x_callV (k2 := 0) (n2 := 0) dX5_weigh_46 LV_Payer_53 (m_Table_has tC2) rfl rfl (fxo_68 hx) rfl (Nat.le_of_ble_eq_true rfl) (Nat.le_of_ble_eq_true rfl) (Nat.le_of_ble_eq_true rfl) (Nat.le_of_ble_eq_true rfl) ?_
          rintro _ _ ⟨rfl, rfl⟩
          rw [hsN (by omega) (by omega)]
          refine x_if_eq (tgt := 77) dX5_weigh_49 rfl (fun c49 => ?_) (fun c49 => ?_)
          · refine x_iconst (v := 0) dX5_weigh_77 (by decide) ?_
            first
            | (have h9 := of_decide_eq_false (bv_0 c49); exact J78 _ _ xFrm.rf (by unfold pwV; rw [k0, if_neg h9]))
            | exact J78 _ _ (xFrv xFrm.rf) hvv
          · have hin : i < n0 := of_decide_eq_true (bv_1 c49)
            have hinc : i < cN s 0 := by rw [k0]; exact hin
            obtain ⟨b, hb1, hb9, hb⟩ := (hR.2.2.2.1 i hinc).2.2.1
            obtain ⟨dy, hdy, hd⟩ := hR.dy
            have hbs2 : bs = s (18 + i) := by rw [hbs, if_pos hin]
            refine x_aload_n dX5_weigh_52 rfl ?_
            refine y_getr dX5_weigh_53 F_Payer_34 (fxo_109 hx) rfl (fxp_109_0 hx) ?_
            refine x_iload_n dX5_weigh_56 rfl ?_
            refine x_iload_n dX5_weigh_57 rfl ?_
            refine x_aload_n dX5_weigh_58 rfl ?_
            refine y_getr dX5_weigh_59 F_Payer_9 (fxo_109 hx) rfl (fxp_109_1 hx) ?_
            refine x_iload_n dX5_weigh_62 rfl ?_
            refine y_iaload dX5_weigh_63 (fxk_110 hx) (vi rfl him (by decide)) (rI (j := i) (ci rfl (by omega)) ((congrFun e110 i).trans (hpu i him).1)) ?_
            refine x_aload_n dX5_weigh_64 rfl ?_
            refine y_getr dX5_weigh_65 F_Payer_34 (fxo_109 hx) rfl (fxp_109_0 hx) ?_
            refine y_geti dX5_weigh_68 F_Payer_57 (fxo_65 hx) rfl ((congrFun (hF 65 (by decide)) 9).trans hW9) ?_
            refine x_callV (k2 := 0) (n2 := 0) dX5_weigh_71 LV_Payer_61 (m_World_worthAs (I := I2) hx (hW.fl hF) hR hinc (b := b) (hbs2.trans hb) hb9 rfl (hpu i him).2 hd hdy) rfl rfl (fxo_65 hx) rfl (Nat.le_of_ble_eq_true rfl) (Nat.le_of_ble_eq_true rfl) (Nat.le_of_ble_eq_true rfl) (Nat.le_of_ble_eq_true rfl) ?_
            rintro _ _ ⟨F, rfl, rfl⟩
            have hvv : wo s i bs (nI (pu i)) (s 9) = pwV s pu i := by unfold pwV; rw [if_pos hinc, hbs2]
            refine x_goto (tgt := 78) dX5_weigh_74 rfl ?_
            first
            | (have h9 := of_decide_eq_false (bv_0 c49); exact J78 _ _ xFrm.rf (by unfold pwV; rw [k0, if_neg h9]))
            | exact J78 _ _ (xFrv xFrm.rf) hvv
  exact K2 _ 0 none I (by decide) xFrm.rf (fun c h => absurd h (Nat.not_lt_zero c)) (Nat.lt_succ_self _)

set_option maxHeartbeats 4000000 in
set_option maxRecDepth 100000 in
theorem m_Payer_openPurse {g : xG} {nx : Nat} {sh : Nat → Nat × Nat} {P : Nat → Nat → Option Nat} {I : Nat → Nat → Int32} (hx : xFx sh P) {s : Nat → Int32} (hW : xWN nx sh P I s) (hR : RI s) : xMet g Y_Payer_openPurse 5 0 0 [.ref 109] (nx, sh, P, I) (fun r σ => ∃ I1 : Nat → Nat → Int32, r = none ∧ σ = (nx, sh, P, I1) ∧ xFrm [80, 110, 111] I I1 ∧ xPy I1 s (puN s)) := by
  refine xMet.of [some (.ref 109), none] (by decide +kernel) (Nat.le_of_ble_eq_true rfl) rfl ?_
  obtain ⟨⟨tTape, tCoins, tWares, tBuys, tSlates, tPlans, tBooked⟩, ⟨cTape, cCoins, cWares, cBuys, cSlates, cPlans, cBooked⟩, hW7, hW9, hL⟩ := id hW
  obtain ⟨⟨n0, b0, e0⟩, ⟨n1, b1, e1⟩, ⟨n2, b2, e2⟩, ⟨n3, b3, e3⟩, ⟨n4, b4, e4⟩, ⟨n5, b5, e5⟩, ⟨n6, b6, e6⟩, ⟨n7, b7, e7⟩, ⟨n9, b9, e9⟩⟩ := hR.k
  have k7 : cN s 7 = n7 := cN_of e7 (by omega)
  rw [k7] at tTape cTape
  have k0 : cN s 0 = n0 := cN_of e0 (by omega)
  rw [k0] at tCoins cCoins
  have k1 : cN s 1 = n1 := cN_of e1 (by omega)
  rw [k1] at tWares cWares
  have k3 : cN s 3 = n3 := cN_of e3 (by omega)
  rw [k3] at tBuys cBuys
  have k4 : cN s 4 = n4 := cN_of e4 (by omega)
  rw [k4] at tSlates cSlates
  have k5 : cN s 5 = n5 := cN_of e5 (by omega)
  rw [k5] at tPlans cPlans
  have k6 : cN s 6 = n6 := cN_of e6 (by omega)
  rw [k6] at tBooked cBooked
  refine x_iconst (v := 0) dX5_openPurse_0 (by decide) ?_
  refine x_istore_n dX5_openPurse_1 (Nat.le_of_ble_eq_true rfl) ?_
  try simp only [xst, xst2, xclr, xset, xwide]
  have K2 : ∀ (fuel : Nat) (i : Nat) (I2 : Nat → Nat → Int32) (hi : i ≤ 4) (hF : xFrm [80, 110, 111] I I2) (hp : ∀ c, c < i → I2 110 c = nI (puN s c)), 4 - i < fuel → xX g Y_Payer_openPurse 5 0 0 (fun r σ => ∃ I1 : Nat → Nat → Int32, r = none ∧ σ = (nx, sh, P, I1) ∧ xFrm [80, 110, 111] I I1 ∧ xPy I1 s (puN s)) 2 [some (.ref 109), some (.int (nI i))] [] (nx, sh, P, I2) := by
    intro fuel
    induction fuel with
    | zero => intro i I2 hi hF hp hm; exact absurd hm (Nat.not_lt_zero _)
    | succ fuel ih2 =>
      intro i I2 hi hF hp hm
      have tC2 : xTb sh P I2 68 69 8 4 n0 := tCoins.other (hF 68 (by decide))
      have e69 : I2 69 = I 69 := hF 69 (by decide)
      refine x_iload_n dX5_openPurse_2 rfl ?_
      refine x_aload_n dX5_openPurse_3 rfl ?_
      refine y_getr dX5_openPurse_4 F_Payer_9 (fxo_109 hx) rfl (fxp_109_1 hx) ?_
      refine y_alen dX5_openPurse_7 (fxk_110 hx) (by decide) ?_
      refine x_icmp_ge (tgt := 35) dX5_openPurse_8 rfl (fun c8 => ?_) (fun c8 => ?_)
      · have hie : i = 4 := cge_t (by decide) hi c8
        refine x_aload_n dX5_openPurse_35 rfl ?_
        refine x_callV (k2 := 0) (n2 := 0) dX5_openPurse_36 LV_Payer_50 (m_Payer_weigh (I := I2) hx (hW.fl hF) hR (pu := puN s) (fun c hc => ⟨hp c (by omega), puN_bd hR c⟩)) rfl rfl (fxo_109 hx) rfl (Nat.le_of_ble_eq_true rfl) (Nat.le_of_ble_eq_true rfl) (Nat.le_of_ble_eq_true rfl) (Nat.le_of_ble_eq_true rfl) ?_
        rintro _ _ ⟨I3, rfl, rfl, hF3, hpy⟩
        refine x_return dX5_openPurse_39 rfl ?_
        exact ⟨I3, rfl, rfl, hF.tr (l1 := [80, 110, 111]) (l2 := [80, 111]) hF3, hpy⟩
      · have him : i < 4 := cge_f (by decide) hi c8
        refine x_aload_n dX5_openPurse_11 rfl ?_
        refine y_getr dX5_openPurse_12 F_Payer_9 (fxo_109 hx) rfl (fxp_109_1 hx) ?_
        refine x_iload_n dX5_openPurse_15 rfl ?_
        refine x_aload_n dX5_openPurse_16 rfl ?_
        refine y_getr dX5_openPurse_17 F_Payer_34 (fxo_109 hx) rfl (fxp_109_0 hx) ?_
        refine y_getr dX5_openPurse_20 F_Payer_38 (fxo_65 hx) rfl (fxp_65_1 hx) ?_
        refine x_iload_n dX5_openPurse_23 rfl ?_
        refine x_iconst (v := 3) dX5_openPurse_24 (by decide) ?_
        refine x_callV (k2 := 0) (n2 := 0) dX5_openPurse_25 LV_Payer_44 (m_Table_get tC2 (x := nI i) (z := nI 3)) rfl rfl (fxo_68 hx) rfl (Nat.le_of_ble_eq_true rfl) (Nat.le_of_ble_eq_true rfl) (Nat.le_of_ble_eq_true rfl) (Nat.le_of_ble_eq_true rfl) ?_
        rintro _ _ ⟨rfl, rfl⟩
        rw [show xTg I2 69 8 n0 (nI i) (nI 3) = nI (puN s i) from by
          unfold puN
          rw [k0]
          by_cases hz : i < n0
          · obtain ⟨p, hp1, hp2⟩ := pu_of hR (c := i) (by omega)
            rw [xTg_in hz (by decide) (by omega) (by decide), if_pos hz, e69, (cCoins i hz).2.2.2.1, hp2, nI_clamp (by omega)]
          · rw [xTg_out (by omega) (by omega), if_neg hz]; rfl]
        refine y_iastore dX5_openPurse_28 (fxk_110 hx) (vi rfl him (by decide)) (ci rfl (by omega)) ?_
        refine x_iinc (v := (nI (i + 1))) dX5_openPurse_29 rfl (nI_1 _) (Nat.le_of_ble_eq_true rfl) ?_
        try simp only [xst, xst2, xclr, xset, xwide]
        refine x_goto (tgt := 2) dX5_openPurse_32 rfl ?_
        exact ih2 (i + 1) _ (by omega) (xFrs hF) (fun c hc => by
          rw [xup_at]
          by_cases hci : c = i
          · rw [if_pos ⟨rfl, hci⟩, hci]
          · rw [if_neg (fun y => hci y.2)]; exact hp c (by omega)) (by omega)
  exact K2 _ 0 I (by decide) xFrm.rf (fun c h => absurd h (Nat.not_lt_zero c)) (Nat.lt_succ_self _)

set_option maxHeartbeats 4000000 in
set_option maxRecDepth 100000 in
theorem m_Payer_start {g : xG} {nx : Nat} {sh : Nat → Nat × Nat} {P : Nat → Nat → Option Nat} {I : Nat → Nat → Int32} (hx : xFx sh P) {s : Nat → Int32} (hW : xWN nx sh P I s) (hR : RI s) {back : Nat} (hbk : back ≤ 3) {pu : Nat → Nat} (hpu : ∀ c, c < 4 → I 110 c = nI (pu c) ∧ pu c ≤ 9) : xMet g Y_Payer_start 1 0 0 [.ref 109, .int (nI back)] (nx, sh, P, I) (fun r σ => ∃ I1 : Nat → Nat → Int32, r = some (.int (nI (sfx (pyLn (cN s 0) back pu) 4 0))) ∧ σ = (nx, sh, P, I1) ∧ xFrm [113, 114, 115] I I1 ∧ (∀ c, c < 4 → I1 113 c = pyB (cN s 0) back c ∧ I1 114 c = nI (pu c)) ∧ xRwAt (I1 113) (pyLn (cN s 0) back pu) 4 0 (I1 115)) := by
  refine xMet.of [some (.ref 109), some (.int (nI back)), none] (by decide +kernel) (Nat.le_of_ble_eq_true rfl) rfl ?_
  obtain ⟨⟨tTape, tCoins, tWares, tBuys, tSlates, tPlans, tBooked⟩, ⟨cTape, cCoins, cWares, cBuys, cSlates, cPlans, cBooked⟩, hW7, hW9, hL⟩ := id hW
  obtain ⟨⟨n0, b0, e0⟩, ⟨n1, b1, e1⟩, ⟨n2, b2, e2⟩, ⟨n3, b3, e3⟩, ⟨n4, b4, e4⟩, ⟨n5, b5, e5⟩, ⟨n6, b6, e6⟩, ⟨n7, b7, e7⟩, ⟨n9, b9, e9⟩⟩ := hR.k
  have k7 : cN s 7 = n7 := cN_of e7 (by omega)
  rw [k7] at tTape cTape
  have k0 : cN s 0 = n0 := cN_of e0 (by omega)
  rw [k0] at tCoins cCoins
  have k1 : cN s 1 = n1 := cN_of e1 (by omega)
  rw [k1] at tWares cWares
  have k3 : cN s 3 = n3 := cN_of e3 (by omega)
  rw [k3] at tBuys cBuys
  have k4 : cN s 4 = n4 := cN_of e4 (by omega)
  rw [k4] at tSlates cSlates
  have k5 : cN s 5 = n5 := cN_of e5 (by omega)
  rw [k5] at tPlans cPlans
  have k6 : cN s 6 = n6 := cN_of e6 (by omega)
  rw [k6] at tBooked cBooked
  refine x_iconst (v := 0) dX5_start_0 (by decide) ?_
  refine x_istore_n dX5_start_1 (Nat.le_of_ble_eq_true rfl) ?_
  try simp only [xst, xst2, xclr, xset, xwide]
  have K2 : ∀ (fuel : Nat) (i : Nat) (I2 : Nat → Nat → Int32) (hi : i ≤ 4) (hF : xFrm [113, 114] I I2) (hb : ∀ c, c < i → I2 113 c = pyB (cN s 0) back c ∧ I2 114 c = nI (pu c)), 4 - i < fuel → xX g Y_Payer_start 1 0 0 (fun r σ => ∃ I1 : Nat → Nat → Int32, r = some (.int (nI (sfx (pyLn (cN s 0) back pu) 4 0))) ∧ σ = (nx, sh, P, I1) ∧ xFrm [113, 114, 115] I I1 ∧ (∀ c, c < 4 → I1 113 c = pyB (cN s 0) back c ∧ I1 114 c = nI (pu c)) ∧ xRwAt (I1 113) (pyLn (cN s 0) back pu) 4 0 (I1 115)) 2 [some (.ref 109), some (.int (nI back)), some (.int (nI i))] [] (nx, sh, P, I2) := by
    intro fuel
    induction fuel with
    | zero => intro i I2 hi hF hb hm; exact absurd hm (Nat.not_lt_zero _)
    | succ fuel ih2 =>
      intro i I2 hi hF hb hm
      have tC2 : xTb sh P I2 68 69 8 4 n0 := tCoins.other (hF 68 (by decide))
      have e110 : I2 110 = I 110 := hF 110 (by decide)
      refine x_iload_n dX5_start_2 rfl ?_
      refine x_aload_n dX5_start_3 rfl ?_
      refine y_getr dX5_start_4 F_Payer_9 (fxo_109 hx) rfl (fxp_109_1 hx) ?_
      refine y_alen dX5_start_7 (fxk_110 hx) (by decide) ?_
      refine x_icmp_ge (tgt := 51) dX5_start_8 rfl (fun c8 => ?_) (fun c8 => ?_)
      · have hie : i = 4 := cge_t (by decide) hi c8
        refine x_aload_n dX5_start_51 rfl ?_
        refine y_getr dX5_start_52 F_Payer_23 (fxo_109 hx) rfl (fxp_109_3 hx) ?_
        refine x_callV (k2 := 0) (n2 := 0) dX5_start_55 LV_Payer_69 (m_Rows_start (I := I2) (xrP hx)) rfl rfl (fxo_112 hx) rfl (Nat.le_of_ble_eq_true rfl) (Nat.le_of_ble_eq_true rfl) (Nat.le_of_ble_eq_true rfl) (Nat.le_of_ble_eq_true rfl) ?_
        rintro _ _ ⟨rfl, rfl⟩
        subst hie
        rw [xPr_a (py_lh hbk hb (fun c hc => (hpu c hc).2))]
        refine x_ireturn dX5_start_58 rfl nb_int ?_
        exact ⟨_, rfl, rfl, xFrv hF.mono, (fun c hc => by rw [va_up_no (by decide), va_up_no (by decide)]; exact hb c hc), xRwAt.z (fun c hc => by rw [va_up_at, va_up_no (by decide)]; exact xTk_r hc)⟩
      · have him : i < 4 := cge_f (by decide) hi c8
        have J36 : ∀ (a2 : Int32) (ha2 : a2 = pyB (cN s 0) back i), xX g Y_Payer_start 1 0 0 (fun r σ => ∃ I1 : Nat → Nat → Int32, r = some (.int (nI (sfx (pyLn (cN s 0) back pu) 4 0))) ∧ σ = (nx, sh, P, I1) ∧ xFrm [113, 114, 115] I I1 ∧ (∀ c, c < 4 → I1 113 c = pyB (cN s 0) back c ∧ I1 114 c = nI (pu c)) ∧ xRwAt (I1 113) (pyLn (cN s 0) back pu) 4 0 (I1 115)) 36 [some (.ref 109), some (.int (nI back)), some (.int (nI i))] [.int a2, .int (nI i), .ref 112] (nx, sh, P, I2) := by
          intro a2 ha2
          refine x_aload_n dX5_start_36 rfl ?_
          refine y_getr dX5_start_37 F_Payer_9 (fxo_109 hx) rfl (fxp_109_1 hx) ?_
          refine x_iload_n dX5_start_40 rfl ?_
          refine y_iaload dX5_start_41 (fxk_110 hx) (vi rfl him (by decide)) (rI (j := i) (ci rfl (by omega)) ((congrFun e110 i).trans (hpu i him).1)) ?_
          refine x_callV (k2 := 0) (n2 := 0) dX5_start_42 LV_Payer_65 (m_Rows_bound (xrP hx) (p := i) him) rfl rfl (fxo_112 hx) rfl (Nat.le_of_ble_eq_true rfl) (Nat.le_of_ble_eq_true rfl) (Nat.le_of_ble_eq_true rfl) (Nat.le_of_ble_eq_true rfl) ?_
          rintro _ _ ⟨rfl, rfl⟩
          refine x_iinc (v := (nI (i + 1))) dX5_start_45 rfl (nI_1 _) (Nat.le_of_ble_eq_true rfl) ?_
          try simp only [xst, xst2, xclr, xset, xwide]
          refine x_goto (tgt := 2) dX5_start_48 rfl ?_
          exact ih2 (i + 1) _ (by omega) (xFrs (xFrs hF)) (fun c hc => by
            by_cases hci : c = i
            · subst hci; exact ⟨by rw [xo (by decide), xs, ha2], by rw [xs]⟩
            · exact ⟨by rw [xo (by decide), xf hci]; exact (hb c (by omega)).1, by rw [xf hci, xo (by decide)]; exact (hb c (by omega)).2⟩) (by omega)
        refine x_aload_n dX5_start_11 rfl ?_
        refine y_getr dX5_start_12 F_Payer_23 (fxo_109 hx) rfl (fxp_109_3 hx) ?_
        refine x_iload_n dX5_start_15 rfl ?_
        refine x_aload_n dX5_start_16 rfl ?_
        refine y_getr dX5_start_17 F_Payer_34 (fxo_109 hx) rfl (fxp_109_0 hx) ?_
        refine y_getr dX5_start_20 F_Payer_38 (fxo_65 hx) rfl (fxp_65_1 hx) ?_
        refine x_iload_n dX5_start_23 rfl ?_
        refine x_callV (k2 := 0) (n2 := 0) dX5_start_24 LV_Payer_53 (m_Table_has tC2) rfl rfl (fxo_68 hx) rfl (Nat.le_of_ble_eq_true rfl) (Nat.le_of_ble_eq_true rfl) (Nat.le_of_ble_eq_true rfl) (Nat.le_of_ble_eq_true rfl) ?_
        rintro _ _ ⟨rfl, rfl⟩
        rw [hsN (by omega) (by omega)]
        refine x_if_eq (tgt := 35) dX5_start_27 rfl (fun c27 => ?_) (fun c27 => ?_)
        · refine x_iconst (v := 0) dX5_start_35 (by decide) ?_
          first
          | (have h9 := of_decide_eq_true (bv_1 c27); exact J36 _ (by unfold pyB; rw [k0, if_pos h9]))
          | (have h9 := of_decide_eq_false (bv_0 c27); exact J36 _ (by unfold pyB; rw [k0, if_neg h9]))
        · refine x_iload_n dX5_start_30 rfl ?_
          refine x_ineg dX5_start_31 ?_
          refine x_goto (tgt := 36) dX5_start_32 rfl ?_
          first
          | (have h9 := of_decide_eq_true (bv_1 c27); exact J36 _ (by unfold pyB; rw [k0, if_pos h9]))
          | (have h9 := of_decide_eq_false (bv_0 c27); exact J36 _ (by unfold pyB; rw [k0, if_neg h9]))
  exact K2 _ 0 I (by decide) xFrm.rf (fun c h => absurd h (Nat.not_lt_zero c)) (Nat.lt_succ_self _)
