/-! the class: the survey -/
def nGu (s : Nat → Int32) (t : Nat) : Nat := sfx (gLn (cN s 0) t) 4 0
def sfI (s : Nat → Int32) (t i : Nat) : Nat := sfN s (gvI (cN s 0) t i) (tlO s 222 0) (cN s 3) 0
def okI (s : Nat → Int32) (t i : Nat) : Bool := decide (sfI s t i = cN s 3)
def okB (s : Nat → Int32) (t c w i : Nat) : Bool := okI s t i && decide (gvI (cN s 0) t i c = w)
def okC (s : Nat → Int32) (t a b q i : Nat) : Bool := okI s t i && decide (cmN (gwV s (gvI (cN s 0) t i) a) (gwV s (gvI (cN s 0) t i) b) = q)
theorem sfN_le {s : Nat → Int32} {v : Nat → Nat} {ch : Int32} : ∀ m k, sfN s v ch m k ≤ k + m
  | 0, _ => Nat.le_refl _
  | m + 1, k => by
    rw [sfN_s]
    split
    · omega
    · have := sfN_le (s := s) (v := v) (ch := ch) m (k + 1); omega
theorem ct_1 {p : Nat → Bool} {i : Nat} {x : Int32} (h : x = nI (ctB p i)) (hp : p i = true) : x + 1 = nI (ctB p (i + 1)) := by rw [h, nI_1, ctB_t hp]
theorem ct_if {p : Nat → Bool} {i : Nat} {x : Int32} {c : Prop} [Decidable c] (h : x = nI (ctB p i)) (hp : p i = decide c) : x + (if c then 1 else 0) = nI (ctB p (i + 1)) := by
  by_cases hc : c
  · rw [if_pos hc]; exact ct_1 h (by rw [hp, decide_eq_true hc])
  · rw [if_neg hc, Int32.add_zero, h, ctB_f (by rw [hp, decide_eq_false hc]; decide)]
theorem ct_no {p : Nat → Bool} {i : Nat} {x : Int32} (h : x = nI (ctB p i)) (hp : p i = false) : x = nI (ctB p (i + 1)) := by rw [h, ctB_f (by rw [hp]; decide)]
/-- the guesses' part of the class behind i guesses -/
def xSv (I : Nat → Nat → Int32) (s : Nat → Int32) (t i : Nat) : Prop := I 100 4 = nI (ctB (okI s t) i) ∧ (∀ c w, c < 4 → w < 10 → I 107 (10 * c + w) = nI (ctB (okB s t c w) i)) ∧ ∀ a b q, a < b → b < 4 → q < 3 → I 108 ((a * 4 + b) * 3 + q) = nI (ctB (okC s t a b q) i)
def mxF (f : Nat → Nat) : Nat → Nat
  | 0 => 0
  | i + 1 => max (mxF f i) (f i)
def mnC (f : Nat → Int32) : Nat → Int32
  | 0 => 61
  | i + 1 => if mnC f i ≤ f i then mnC f i else f i
def cnI (s : Nat → Int32) (t i : Nat) : Int32 := cnN s (gvI (cN s 0) t i) (cN s 3) 0 0
theorem mxF_le {f : Nat → Nat} {b : Nat} (h : ∀ i, f i ≤ b) : ∀ i, mxF f i ≤ b
  | 0 => Nat.zero_le _
  | i + 1 => Nat.max_le.mpr ⟨mxF_le h i, h i⟩
theorem nGu_le {s : Nat → Int32} {t : Nat} (h1 : 1 ≤ t) (h9 : t ≤ 9) : nGu s t ≤ 6561 := by
  have hl : ∀ c, gLn (cN s 0) t c ≤ 9 := fun c => by unfold gLn; split <;> omega
  have hp : ∀ k a, prL (gLn (cN s 0) t) a k ≤ 9 ^ k := by
    intro k
    induction k with
    | zero => intro a; exact Nat.le_refl _
    | succ k ih => intro a; show gLn (cN s 0) t a * prL _ (a + 1) k ≤ _; rw [Nat.pow_succ, Nat.mul_comm]; exact Nat.mul_le_mul (ih _) (hl a)
  exact hp 4 0
set_option maxHeartbeats 4000000 in
set_option maxRecDepth 100000 in
theorem m_Guesses_survey {g : xG} {nx : Nat} {sh : Nat → Nat × Nat} {P : Nat → Nat → Option Nat} {I : Nat → Nat → Int32} (hx : xFx sh P) {s : Nat → Int32} (hW : xWN nx sh P I s) (hR : RI s) {t : Nat} (ht : tpN s = nI t) (ht1 : 1 ≤ t) (ht9 : t ≤ 9) : xMet g Y_Guesses_survey 5 0 0 [.ref 100] (nx, sh, P, I) (fun r σ => ∃ I1 : Nat → Nat → Int32, r = none ∧ σ = (nx, sh, P, I1) ∧ xFrm [80, 100, 102, 103, 104, 105, 106, 107, 108] I I1 ∧ xSv I1 s t (nGu s t)) := by
  refine xMet.of [some (.ref 100), none, none, none, none] (by decide +kernel) (Nat.le_of_ble_eq_true rfl) rfl ?_
  obtain ⟨⟨tTape, tCoins, tWares, tBuys, tSlates, tPlans, tBooked⟩, ⟨cTape, cCoins, cWares, cBuys, cSlates, cPlans, cBooked⟩, hW7, hW9, hL⟩ := id hW
  obtain ⟨⟨n0, b0, e0⟩, ⟨n1, b1, e1⟩, ⟨n2, b2, e2⟩, ⟨n3, b3, e3⟩, ⟨n4, b4, e4⟩, ⟨n5, b5, e5⟩, ⟨n6, b6, e6⟩, ⟨n7, b7, e7⟩, ⟨n9, b9, e9⟩⟩ := hR.k
  have k7 : cN s 7 = n7 := cN_of e7 (by omega)
  rw [k7] at tTape cTape
  have k0 : cN s 0 = n0 := cN_of e0 (by omega)
  rw [k0] at tCoins cCoins
  have k1 : cN s 1 = n1 := cN_of e1 (by omega)
  rw [k1] at tWares cWares
  have k3 : cN s 3 = n3 := cN_of e3 (by omega)
  rw [k3] at tBuys cBuys
  have k4 : cN s 4 = n4 := cN_of e4 (by omega)
  rw [k4] at tSlates cSlates
  have k5 : cN s 5 = n5 := cN_of e5 (by omega)
  rw [k5] at tPlans cPlans
  have k6 : cN s 6 = n6 := cN_of e6 (by omega)
  rw [k6] at tBooked cBooked
  refine x_aload_n dX3_survey_0 rfl ?_
  refine x_iconst (v := 0) dX3_survey_1 (by decide) ?_
  refine x_puti dX3_survey_2 F_Guesses_27 T_3_4 (fxo_100 hx) rfl rfl rfl ?_
  refine x_aload_n dX3_survey_5 rfl ?_
  refine y_getr dX3_survey_6 F_Guesses_31 (fxo_100 hx) rfl (fxp_100_5 hx) ?_
  refine x_iconst (v := 0) dX3_survey_9 (by decide) ?_
  refine x_callS (k2 := 0) (n2 := 0) dX3_survey_10 LS_Guesses_91 (j_fill (I := xup I 100 4 0) (len := 40) (fxk_107 hx) (by decide)) rfl rfl (Nat.le_of_ble_eq_true rfl) (Nat.le_of_ble_eq_true rfl) (Nat.le_of_ble_eq_true rfl) (Nat.le_of_ble_eq_true rfl) ?_
  rintro _ _ ⟨rfl, rfl⟩
  refine x_aload_n dX3_survey_13 rfl ?_
  refine y_getr dX3_survey_14 F_Guesses_34 (fxo_100 hx) rfl (fxp_100_6 hx) ?_
  refine x_iconst (v := 0) dX3_survey_17 (by decide) ?_
  refine x_callS (k2 := 0) (n2 := 0) dX3_survey_18 LS_Guesses_91 (j_fill (I := va_up (xup I 100 4 0) 107 (flF (xup I 100 4 0 107) 0 40)) (len := 48) (fxk_108 hx) (by decide)) rfl rfl (Nat.le_of_ble_eq_true rfl) (Nat.le_of_ble_eq_true rfl) (Nat.le_of_ble_eq_true rfl) (Nat.le_of_ble_eq_true rfl) ?_
  rintro _ _ ⟨rfl, rfl⟩
  obtain ⟨I0, hI0⟩ : ∃ I0, I0 = va_up (va_up (xup I 100 4 0) 107 (flF (xup I 100 4 0 107) 0 40)) 108 (flF (va_up (xup I 100 4 0) 107 (flF (xup I 100 4 0 107) 0 40) 108) 0 48) := ⟨_, rfl⟩
  refine y_st (I' := I0) hI0.symm ?_
  have hF0 : xFrm [80, 100, 102, 103, 104, 105, 106, 107, 108] I I0 := by rw [hI0]; exact xFrv (xFrv (xFrs xFrm.rf))
  have hW0 := hW.fl hF0
  have h04 : I0 100 4 = 0 := by rw [hI0, va_up_no (by decide), va_up_no (by decide), xs]
  have h07 : ∀ j, j < 40 → I0 107 j = 0 := fun j hj => by rw [hI0, va_up_no (by decide), va_up_at]; exact if_pos hj
  have h08 : ∀ j, j < 48 → I0 108 j = 0 := fun j hj => by rw [hI0, va_up_at]; exact if_pos hj
  have hL0 := hW0.2.2.2.2
  have tB0 : xTb sh P I0 72 73 5 6 n3 := tBuys.other (hF0 72 (by decide))
  refine x_aload_n dX3_survey_21 rfl ?_
  refine y_getr dX3_survey_22 F_Guesses_37 (fxo_100 hx) rfl (fxp_100_0 hx) ?_
  refine x_callV (k2 := 0) (n2 := 0) dX3_survey_25 LV_Guesses_97 (m_World_cheating (I := I0) hx hL0) rfl rfl (fxo_65 hx) rfl (Nat.le_of_ble_eq_true rfl) (Nat.le_of_ble_eq_true rfl) (Nat.le_of_ble_eq_true rfl) (Nat.le_of_ble_eq_true rfl) ?_
  rintro _ _ ⟨rfl, rfl⟩
  refine x_istore_n dX3_survey_28 (Nat.le_of_ble_eq_true rfl) ?_
  try simp only [xst, xst2, xclr, xset, xwide]
  refine x_aload_n dX3_survey_29 rfl ?_
  refine y_getr dX3_survey_30 F_Guesses_37 (fxo_100 hx) rfl (fxp_100_0 hx) ?_
  refine y_getr dX3_survey_33 F_Guesses_78 (fxo_65 hx) rfl (fxp_65_3 hx) ?_
  refine x_callV (k2 := 0) (n2 := 0) dX3_survey_36 LV_Guesses_85 (m_Table_rows tB0) rfl rfl (fxo_72 hx) rfl (Nat.le_of_ble_eq_true rfl) (Nat.le_of_ble_eq_true rfl) (Nat.le_of_ble_eq_true rfl) (Nat.le_of_ble_eq_true rfl) ?_
  rintro _ _ ⟨rfl, rfl⟩
  refine x_istore_n dX3_survey_39 (Nat.le_of_ble_eq_true rfl) ?_
  try simp only [xst, xst2, xclr, xset, xwide]
  refine x_aload_n dX3_survey_40 rfl ?_
  refine x_callV (k2 := 0) (n2 := 0) dX3_survey_41 LV_Guesses_100 (m_Guesses_start (I := I0) hx hW0 hR ht ht1 ht9) rfl rfl (fxo_100 hx) rfl (Nat.le_of_ble_eq_true rfl) (Nat.le_of_ble_eq_true rfl) (Nat.le_of_ble_eq_true rfl) (Nat.le_of_ble_eq_true rfl) ?_
  rintro _ _ ⟨I1, rfl, rfl, hF1, hg1, hr1⟩
  have hN9 := nGu_le (s := s) ht1 ht9
  rw [show sfx (gLn (cN s 0) t) 4 0 = nGu s t from rfl]
  refine x_istore_n dX3_survey_44 (Nat.le_of_ble_eq_true rfl) ?_
  try simp only [xst, xst2, xclr, xset, xwide]
  refine x_iconst (v := 0) dX3_survey_45 (by decide) ?_
  refine x_istore dX3_survey_46 (Nat.le_of_ble_eq_true rfl) ?_
  try simp only [xst, xst2, xclr, xset, xwide]
  have K48 : ∀ (fuel : Nat) (i : Nat) (I2 : Nat → Nat → Int32) (hi : i ≤ nGu s t) (hF : xFrm [80, 100, 102, 103, 104, 105, 106, 107, 108] I I2) (hg : xGst I2 s t) (hr : xRwAt (I2 102) (gLn (cN s 0) t) 4 i (I2 104)) (hv : xSv I2 s t i), nGu s t - i < fuel → xX g Y_Guesses_survey 5 0 0 (fun r σ => ∃ I1 : Nat → Nat → Int32, r = none ∧ σ = (nx, sh, P, I1) ∧ xFrm [80, 100, 102, 103, 104, 105, 106, 107, 108] I I1 ∧ xSv I1 s t (nGu s t)) 48 [some (.ref 100), some (.int (tlO s 222 0)), some (.int (nI n3)), some (.int (nI (nGu s t))), some (.int (nI i))] [] (nx, sh, P, I2) := by
    intro fuel
    induction fuel with
    | zero => intro i I2 hi hF hg hr hv hm; exact absurd hm (Nat.not_lt_zero _)
    | succ fuel ih48 =>
      intro i I2 hi hF hg hr hv hm
      refine x_iload dX3_survey_48 rfl ?_
      refine x_iload_n dX3_survey_50 rfl ?_
      refine x_icmp_ge (tgt := 84) dX3_survey_51 rfl (fun c51 => ?_) (fun c51 => ?_)
      · have hie : i = nGu s t := cge_t (by omega) hi c51
        refine x_return dX3_survey_84 rfl ?_
        subst hie
        exact ⟨I2, rfl, rfl, hF, hv⟩
      · have him : i < nGu s t := cge_f (by omega) hi c51
        have J71 : ∀ (I3 : Nat → Nat → Int32) (hF3 : xFrm [80, 100, 102, 103, 104, 105, 106, 107, 108] I I3) (hg3 : xGst I3 s t) (hr3 : xRwAt (I3 102) (gLn (cN s 0) t) 4 i (I3 104)) (hv3 : xSv I3 s t (i + 1)), xX g Y_Guesses_survey 5 0 0 (fun r σ => ∃ I1 : Nat → Nat → Int32, r = none ∧ σ = (nx, sh, P, I1) ∧ xFrm [80, 100, 102, 103, 104, 105, 106, 107, 108] I I1 ∧ xSv I1 s t (nGu s t)) 71 [some (.ref 100), some (.int (tlO s 222 0)), some (.int (nI n3)), some (.int (nI (nGu s t))), some (.int (nI i))] [] (nx, sh, P, I3) := by
          intro I3 hF3 hg3 hr3 hv3
          refine x_aload_n dX3_survey_71 rfl ?_
          refine y_getr dX3_survey_72 F_Guesses_14 (fxo_100 hx) rfl (fxp_100_1 hx) ?_
          refine x_callV (k2 := 0) (n2 := 0) dX3_survey_75 LV_Guesses_110 (m_Rows_step (I := I3) (xrG hx)) rfl rfl (fxo_101 hx) rfl (Nat.le_of_ble_eq_true rfl) (Nat.le_of_ble_eq_true rfl) (Nat.le_of_ble_eq_true rfl) (Nat.le_of_ble_eq_true rfl) ?_
          rintro _ _ ⟨rfl, rfl⟩
          have hst := xRwAt.st (hg3.lh ht1 ht9) hr3
          have hg4 : xGst (va_up I3 104 (xNx (I3 102) (I3 103) 4 (I3 104))) s t := ⟨fun c hc => by rw [va_up_no (by decide), va_up_no (by decide)]; exact hg3.1 c hc, fun c b hc hb => by rw [va_up_no (by decide)]; exact hg3.2 c b hc hb⟩
          have hr4 : xRwAt (va_up I3 104 (xNx (I3 102) (I3 103) 4 (I3 104)) 102) (gLn (cN s 0) t) 4 (i + 1) (va_up I3 104 (xNx (I3 102) (I3 103) 4 (I3 104)) 104) := by rw [va_up_at, va_up_no (by decide)]; exact hst
          refine x_iinc (v := (nI (i + 1))) dX3_survey_78 rfl (nI_1 _) (Nat.le_of_ble_eq_true rfl) ?_
          try simp only [xst, xst2, xclr, xset, xwide]
          refine x_goto (tgt := 48) dX3_survey_81 rfl ?_
          exact ih48 (i + 1) _ (by omega) (xFrv hF3) hg4 hr4 ⟨by rw [va_up_no (by decide)]; exact hv3.1, fun c w hc hw => by rw [va_up_no (by decide)]; exact hv3.2.1 c w hc hw, fun a b q h1 h2 h3 => by rw [va_up_no (by decide)]; exact hv3.2.2 a b q h1 h2 h3⟩ (by omega)
        refine x_aload_n dX3_survey_54 rfl ?_
        refine x_callV (k2 := 0) (n2 := 0) dX3_survey_55 LV_Guesses_101 (m_Guesses_weigh (I := I2) (W := fun c b => if c < cN s 0 ∧ 1 ≤ b then wb s c b else 0) (v := gvI (cN s 0) t i) hx hg.2 (hg.at ht1 ht9 hr)) rfl rfl (fxo_100 hx) rfl (Nat.le_of_ble_eq_true rfl) (Nat.le_of_ble_eq_true rfl) (Nat.le_of_ble_eq_true rfl) (Nat.le_of_ble_eq_true rfl) ?_
        rintro _ _ ⟨F, rfl, rfl, hFv⟩
        have hFg : ∀ c, c < 4 → va_up I2 106 F 106 c = gwV s (gvI (cN s 0) t i) c := fun c hc => by rw [va_up_at, hFv c hc]; exact xGst.gw c hc
        have hW3 : xWN nx sh P (va_up I2 106 F) s := hW.fl (l := [80, 100, 102, 103, 104, 105, 106, 107, 108]) (xFrv hF)
        refine x_aload_n dX3_survey_58 rfl ?_
        refine x_iload_n dX3_survey_59 rfl ?_
        refine x_callV (k2 := 0) (n2 := 0) dX3_survey_60 LV_Guesses_104 (m_Guesses_soFar (I := va_up I2 106 F) (v := gvI (cN s 0) t i) (ch := tlO s 222 0) hx hW3 hR hFg) rfl rfl (fxo_100 hx) rfl (Nat.le_of_ble_eq_true rfl) (Nat.le_of_ble_eq_true rfl) (Nat.le_of_ble_eq_true rfl) (Nat.le_of_ble_eq_true rfl) ?_
        rintro _ _ ⟨rfl, rfl⟩
        rw [show sfN s (gvI (cN s 0) t i) (tlO s 222 0) (cN s 3) 0 = sfI s t i from rfl]
        have hsl : sfI s t i ≤ 6 := by have := sfN_le (s := s) (v := gvI (cN s 0) t i) (ch := tlO s 222 0) (cN s 3) 0; have h9 : sfI s t i ≤ 0 + cN s 3 := this; omega
        have hvn : ¬ nI (sfI s t i) = nI n3 → xSv (va_up I2 106 F) s t (i + 1) := fun z => by
          have hok : okI s t i = false := decide_eq_false (fun y => z (by rw [y, k3]))
          exact ⟨ct_no (by rw [va_up_no (by decide)]; exact hv.1) hok, fun c w hc hw => ct_no (by rw [va_up_no (by decide)]; exact hv.2.1 c w hc hw) (by unfold okB; rw [hok]; rfl), fun a b q h1 h2 h3 => ct_no (by rw [va_up_no (by decide)]; exact hv.2.2 a b q h1 h2 h3) (by unfold okC; rw [hok]; rfl)⟩
        refine x_iload_n dX3_survey_63 rfl ?_
        refine x_icmp_ne (tgt := 71) dX3_survey_64 rfl (fun c64 => ?_) (fun c64 => ?_)
        · first | exact J71 _ (xFrv hF) ⟨fun c hc => by rw [va_up_no (by decide), va_up_no (by decide)]; exact hg.1 c hc, fun c b hc hb => by rw [va_up_no (by decide)]; exact hg.2 c b hc hb⟩ (by rw [va_up_no (by decide), va_up_no (by decide)]; exact hr) (hvn c64) | exact J71 _ hF4 hg4 hr4 hv4
        · have hok : okI s t i = true := decide_eq_true (by rw [k3]; exact (nI_eqI (by omega) (by omega)).mp c64)
          refine x_aload_n dX3_survey_67 rfl ?_
          refine x_callV (k2 := 0) (n2 := 0) dX3_survey_68 LV_Guesses_107 (m_Guesses_noteOne (I := va_up I2 106 F) (v := gvI (cN s 0) t i) (Ln := ctB (okI s t) i) hx (fun c hc => by rw [va_up_no (by decide)]; exact hg.at ht1 ht9 hr c hc) (by rw [va_up_no (by decide)]; exact hv.1)) rfl rfl (fxo_100 hx) rfl (Nat.le_of_ble_eq_true rfl) (Nat.le_of_ble_eq_true rfl) (Nat.le_of_ble_eq_true rfl) (Nat.le_of_ble_eq_true rfl) ?_
          rintro _ _ ⟨F2, Gf, rfl, rfl, hF2, hG2⟩
          obtain ⟨I4, hI4⟩ : ∃ I4, I4 = va_up (va_up (xup (va_up I2 106 F) 100 4 (nI (ctB (okI s t) i + 1))) 107 F2) 108 Gf := ⟨_, rfl⟩
          refine y_st (I' := I4) hI4.symm ?_
          have e102 : I4 102 = I2 102 := by rw [hI4, va_up_no (by decide), va_up_no (by decide), xup_n (by decide), va_up_no (by decide)]
          have e103 : I4 103 = I2 103 := by rw [hI4, va_up_no (by decide), va_up_no (by decide), xup_n (by decide), va_up_no (by decide)]
          have e104 : I4 104 = I2 104 := by rw [hI4, va_up_no (by decide), va_up_no (by decide), xup_n (by decide), va_up_no (by decide)]
          have e105 : I4 105 = I2 105 := by rw [hI4, va_up_no (by decide), va_up_no (by decide), xup_n (by decide), va_up_no (by decide)]
          have hF4 : xFrm [80, 100, 102, 103, 104, 105, 106, 107, 108] I I4 := by rw [hI4]; exact xFrv (xFrv (xFrs (xFrv hF)))
          have hg4 : xGst I4 s t := ⟨fun c hc => by rw [e102, e103]; exact hg.1 c hc, fun c b hc hb => by rw [e105]; exact hg.2 c b hc hb⟩
          have hr4 : xRwAt (I4 102) (gLn (cN s 0) t) 4 i (I4 104) := by rw [e102, e104]; exact hr
          have hv4 : xSv I4 s t (i + 1) := by
            refine ⟨?_, fun c w hc hw => ?_, fun a b q h1 h2 h3 => ?_⟩
            · rw [hI4, va_up_no (by decide), va_up_no (by decide), xs, ctB_t hok]
            · rw [hI4, va_up_no (by decide), va_up_at, hF2 c w hc hw, va_up_no (by decide)]
              exact ct_if (hv.2.1 c w hc hw) (by unfold okB; rw [hok, Bool.true_and])
            · rw [hI4, va_up_at, hG2 a b q h1 h2 h3, va_up_no (by decide), hFg a (by omega), hFg b h2]
              exact ct_if (hv.2.2 a b q h1 h2 h3) (by unfold okC; rw [hok, Bool.true_and])
          first | exact J71 _ (xFrv hF) ⟨fun c hc => by rw [va_up_no (by decide), va_up_no (by decide)]; exact hg.1 c hc, fun c b hc hb => by rw [va_up_no (by decide)]; exact hg.2 c b hc hb⟩ (by rw [va_up_no (by decide), va_up_no (by decide)]; exact hr) (hvn c64) | exact J71 _ hF4 hg4 hr4 hv4
  exact K48 _ 0 I1 (Nat.zero_le _) (hF0.tr (l1 := [80, 100, 102, 103, 104, 105, 106, 107, 108]) (l2 := [80, 102, 103, 104, 105]) hF1) hg1 hr1 ⟨by rw [hF1 100 (by decide)]; exact h04, fun c w hc hw => by rw [hF1 107 (by decide)]; exact h07 _ (by omega), fun a b q h1 h2 h3 => by rw [hF1 108 (by decide)]; exact h08 _ (by omega)⟩ (Nat.lt_succ_self _)

set_option maxHeartbeats 4000000 in
set_option maxRecDepth 100000 in
theorem m_Guesses_firstWrong {g : xG} {nx : Nat} {sh : Nat → Nat × Nat} {P : Nat → Nat → Option Nat} {I : Nat → Nat → Int32} (hx : xFx sh P) {s : Nat → Int32} (hW : xWN nx sh P I s) (hR : RI s) {t : Nat} (ht : tpN s = nI t) (ht1 : 1 ≤ t) (ht9 : t ≤ 9) : xMet g Y_Guesses_firstWrong 5 0 0 [.ref 100] (nx, sh, P, I) (fun r σ => ∃ I1 : Nat → Nat → Int32, r = some (.int (if mxF (sfI s t) (nGu s t) = cN s 3 then -5 else nI (mxF (sfI s t) (nGu s t)))) ∧ σ = (nx, sh, P, I1) ∧ xFrm [80, 102, 103, 104, 105, 106] I I1) := by
  refine xMet.of [some (.ref 100), none, none, none, none] (by decide +kernel) (Nat.le_of_ble_eq_true rfl) rfl ?_
  obtain ⟨⟨tTape, tCoins, tWares, tBuys, tSlates, tPlans, tBooked⟩, ⟨cTape, cCoins, cWares, cBuys, cSlates, cPlans, cBooked⟩, hW7, hW9, hL⟩ := id hW
  obtain ⟨⟨n0, b0, e0⟩, ⟨n1, b1, e1⟩, ⟨n2, b2, e2⟩, ⟨n3, b3, e3⟩, ⟨n4, b4, e4⟩, ⟨n5, b5, e5⟩, ⟨n6, b6, e6⟩, ⟨n7, b7, e7⟩, ⟨n9, b9, e9⟩⟩ := hR.k
  have k7 : cN s 7 = n7 := cN_of e7 (by omega)
  rw [k7] at tTape cTape
  have k0 : cN s 0 = n0 := cN_of e0 (by omega)
  rw [k0] at tCoins cCoins
  have k1 : cN s 1 = n1 := cN_of e1 (by omega)
  rw [k1] at tWares cWares
  have k3 : cN s 3 = n3 := cN_of e3 (by omega)
  rw [k3] at tBuys cBuys
  have k4 : cN s 4 = n4 := cN_of e4 (by omega)
  rw [k4] at tSlates cSlates
  have k5 : cN s 5 = n5 := cN_of e5 (by omega)
  rw [k5] at tPlans cPlans
  have k6 : cN s 6 = n6 := cN_of e6 (by omega)
  rw [k6] at tBooked cBooked
  refine x_aload_n dX3_firstWrong_0 rfl ?_
  refine y_getr dX3_firstWrong_1 F_Guesses_37 (fxo_100 hx) rfl (fxp_100_0 hx) ?_
  refine x_callV (k2 := 0) (n2 := 0) dX3_firstWrong_4 LV_Guesses_97 (m_World_cheating hx hL) rfl rfl (fxo_65 hx) rfl (Nat.le_of_ble_eq_true rfl) (Nat.le_of_ble_eq_true rfl) (Nat.le_of_ble_eq_true rfl) (Nat.le_of_ble_eq_true rfl) ?_
  rintro _ _ ⟨rfl, rfl⟩
  refine x_istore_n dX3_firstWrong_7 (Nat.le_of_ble_eq_true rfl) ?_
  try simp only [xst, xst2, xclr, xset, xwide]
  refine x_iconst (v := 0) dX3_firstWrong_8 (by decide) ?_
  refine x_istore_n dX3_firstWrong_9 (Nat.le_of_ble_eq_true rfl) ?_
  try simp only [xst, xst2, xclr, xset, xwide]
  refine x_aload_n dX3_firstWrong_10 rfl ?_
  refine x_callV (k2 := 0) (n2 := 0) dX3_firstWrong_11 LV_Guesses_100 (m_Guesses_start hx hW hR ht ht1 ht9) rfl rfl (fxo_100 hx) rfl (Nat.le_of_ble_eq_true rfl) (Nat.le_of_ble_eq_true rfl) (Nat.le_of_ble_eq_true rfl) (Nat.le_of_ble_eq_true rfl) ?_
  rintro _ _ ⟨I1, rfl, rfl, hF1, hg1, hr1⟩
  have hN9 := nGu_le (s := s) ht1 ht9
  rw [show sfx (gLn (cN s 0) t) 4 0 = nGu s t from rfl]
  have hsl : ∀ i, sfI s t i ≤ 6 := fun i => by have := sfN_le (s := s) (v := gvI (cN s 0) t i) (ch := tlO s 222 0) (cN s 3) 0; have h9 : sfI s t i ≤ 0 + cN s 3 := this; omega
  refine x_istore_n dX3_firstWrong_14 (Nat.le_of_ble_eq_true rfl) ?_
  try simp only [xst, xst2, xclr, xset, xwide]
  refine x_iconst (v := 0) dX3_firstWrong_15 (by decide) ?_
  refine x_istore dX3_firstWrong_16 (Nat.le_of_ble_eq_true rfl) ?_
  try simp only [xst, xst2, xclr, xset, xwide]
  have K18 : ∀ (fuel : Nat) (i : Nat) (I2 : Nat → Nat → Int32) (hi : i ≤ nGu s t) (hF : xFrm [80, 102, 103, 104, 105, 106] I I2) (hg : xGst I2 s t) (hr : xRwAt (I2 102) (gLn (cN s 0) t) 4 i (I2 104)), nGu s t - i < fuel → xX g Y_Guesses_firstWrong 5 0 0 (fun r σ => ∃ I1 : Nat → Nat → Int32, r = some (.int (if mxF (sfI s t) (nGu s t) = cN s 3 then -5 else nI (mxF (sfI s t) (nGu s t)))) ∧ σ = (nx, sh, P, I1) ∧ xFrm [80, 102, 103, 104, 105, 106] I I1) 18 [some (.ref 100), some (.int (tlO s 222 0)), some (.int (nI (mxF (sfI s t) i))), some (.int (nI (nGu s t))), some (.int (nI i))] [] (nx, sh, P, I2) := by
    intro fuel
    induction fuel with
    | zero => intro i I2 hi hF hg hr hm; exact absurd hm (Nat.not_lt_zero _)
    | succ fuel ih18 =>
      intro i I2 hi hF hg hr hm
      refine x_iload dX3_firstWrong_18 rfl ?_
      refine x_iload_n dX3_firstWrong_20 rfl ?_
      refine x_icmp_ge (tgt := 51) dX3_firstWrong_21 rfl (fun c21 => ?_) (fun c21 => ?_)
      · have hie : i = nGu s t := cge_t (by omega) hi c21
        refine x_iload_n dX3_firstWrong_51 rfl ?_
        refine x_aload_n dX3_firstWrong_52 rfl ?_
        refine y_getr dX3_firstWrong_53 F_Guesses_37 (fxo_100 hx) rfl (fxp_100_0 hx) ?_
        refine y_getr dX3_firstWrong_56 F_Guesses_78 (fxo_65 hx) rfl (fxp_65_3 hx) ?_
        refine x_callV (k2 := 0) (n2 := 0) dX3_firstWrong_59 LV_Guesses_85 (m_Table_rows (tBuys.other (hF 72 (by decide)))) rfl rfl (fxo_72 hx) rfl (Nat.le_of_ble_eq_true rfl) (Nat.le_of_ble_eq_true rfl) (Nat.le_of_ble_eq_true rfl) (Nat.le_of_ble_eq_true rfl) ?_
        rintro _ _ ⟨rfl, rfl⟩
        have hm6 := mxF_le hsl i
        refine x_icmp_ne (tgt := 70) dX3_firstWrong_62 rfl (fun c62 => ?_) (fun c62 => ?_)
        · refine x_iload_n dX3_firstWrong_70 rfl ?_
          refine x_ireturn dX3_firstWrong_71 rfl nb_int ?_
          subst hie
          first | exact ⟨I2, by rw [k3, if_pos ((nI_eqI (by omega) (by omega)).mp c62)], rfl, hF⟩ | exact ⟨I2, by rw [k3, if_neg (fun y => c62 (by rw [y]))], rfl, hF⟩
        · refine x_bipush (v := (-5)) dX3_firstWrong_65 (by decide) ?_
          refine x_goto (tgt := 71) dX3_firstWrong_67 rfl ?_
          refine x_ireturn dX3_firstWrong_71 rfl nb_int ?_
          subst hie
          first | exact ⟨I2, by rw [k3, if_pos ((nI_eqI (by omega) (by omega)).mp c62)], rfl, hF⟩ | exact ⟨I2, by rw [k3, if_neg (fun y => c62 (by rw [y]))], rfl, hF⟩
      · have him : i < nGu s t := cge_f (by omega) hi c21
        refine x_aload_n dX3_firstWrong_24 rfl ?_
        refine x_callV (k2 := 0) (n2 := 0) dX3_firstWrong_25 LV_Guesses_101 (m_Guesses_weigh (I := I2) (W := fun c b => if c < cN s 0 ∧ 1 ≤ b then wb s c b else 0) (v := gvI (cN s 0) t i) hx hg.2 (hg.at ht1 ht9 hr)) rfl rfl (fxo_100 hx) rfl (Nat.le_of_ble_eq_true rfl) (Nat.le_of_ble_eq_true rfl) (Nat.le_of_ble_eq_true rfl) (Nat.le_of_ble_eq_true rfl) ?_
        rintro _ _ ⟨F, rfl, rfl, hFv⟩
        have hFg : ∀ c, c < 4 → va_up I2 106 F 106 c = gwV s (gvI (cN s 0) t i) c := fun c hc => by rw [va_up_at, hFv c hc]; exact xGst.gw c hc
        have hW3 : xWN nx sh P (va_up I2 106 F) s := hW.fl (l := [80, 102, 103, 104, 105, 106]) (xFrv hF)
        obtain ⟨I4, hI4⟩ : ∃ I4, I4 = va_up I2 106 F := ⟨_, rfl⟩
        rw [← hI4] at hFg hW3
        refine y_st (I' := I4) hI4.symm ?_
        have hF4 : xFrm [80, 102, 103, 104, 105, 106] I I4 := by rw [hI4]; exact xFrv hF
        have hg5 : xGst I4 s t := by rw [hI4]; exact ⟨fun c hc => by rw [va_up_no (by decide), va_up_no (by decide)]; exact hg.1 c hc, fun c b hc hb => by rw [va_up_no (by decide)]; exact hg.2 c b hc hb⟩
        have hr5 : xRwAt (I4 102) (gLn (cN s 0) t) 4 i (I4 104) := by rw [hI4, va_up_no (by decide), va_up_no (by decide)]; exact hr
        refine x_iload_n dX3_firstWrong_28 rfl ?_
        refine x_aload_n dX3_firstWrong_29 rfl ?_
        refine x_iload_n dX3_firstWrong_30 rfl ?_
        refine x_callV (k2 := 0) (n2 := 0) dX3_firstWrong_31 LV_Guesses_104 (m_Guesses_soFar (I := I4) (v := gvI (cN s 0) t i) (ch := tlO s 222 0) hx hW3 hR hFg) rfl rfl (fxo_100 hx) rfl (Nat.le_of_ble_eq_true rfl) (Nat.le_of_ble_eq_true rfl) (Nat.le_of_ble_eq_true rfl) (Nat.le_of_ble_eq_true rfl) ?_
        rintro _ _ ⟨rfl, rfl⟩
        rw [show sfN s (gvI (cN s 0) t i) (tlO s 222 0) (cN s 3) 0 = sfI s t i from rfl]
        refine x_callS (k2 := 0) (n2 := 0) dX3_firstWrong_34 LS_Guesses_130 m_max rfl rfl (Nat.le_of_ble_eq_true rfl) (Nat.le_of_ble_eq_true rfl) (Nat.le_of_ble_eq_true rfl) (Nat.le_of_ble_eq_true rfl) ?_
        rintro _ _ ⟨rfl, rfl⟩
        have hm6 := mxF_le hsl i
        have hs6 := hsl i
        rw [mxI (by omega) (by omega), show max (mxF (sfI s t) i) (sfI s t i) = mxF (sfI s t) (i + 1) from rfl]
        refine x_istore_n dX3_firstWrong_37 (Nat.le_of_ble_eq_true rfl) ?_
        try simp only [xst, xst2, xclr, xset, xwide]
        refine x_aload_n dX3_firstWrong_38 rfl ?_
        refine y_getr dX3_firstWrong_39 F_Guesses_14 (fxo_100 hx) rfl (fxp_100_1 hx) ?_
        refine x_callV (k2 := 0) (n2 := 0) dX3_firstWrong_42 LV_Guesses_110 (m_Rows_step (I := I4) (xrG hx)) rfl rfl (fxo_101 hx) rfl (Nat.le_of_ble_eq_true rfl) (Nat.le_of_ble_eq_true rfl) (Nat.le_of_ble_eq_true rfl) (Nat.le_of_ble_eq_true rfl) ?_
        rintro _ _ ⟨rfl, rfl⟩
        have hst := xRwAt.st (hg5.lh ht1 ht9) hr5
        have hg4 : xGst (va_up I4 104 (xNx (I4 102) (I4 103) 4 (I4 104))) s t := ⟨fun c hc => by rw [va_up_no (by decide), va_up_no (by decide)]; exact hg5.1 c hc, fun c b hc hb => by rw [va_up_no (by decide)]; exact hg5.2 c b hc hb⟩
        have hr4 : xRwAt (va_up I4 104 (xNx (I4 102) (I4 103) 4 (I4 104)) 102) (gLn (cN s 0) t) 4 (i + 1) (va_up I4 104 (xNx (I4 102) (I4 103) 4 (I4 104)) 104) := by rw [va_up_at, va_up_no (by decide)]; exact hst
        refine x_iinc (v := (nI (i + 1))) dX3_firstWrong_45 rfl (nI_1 _) (Nat.le_of_ble_eq_true rfl) ?_
        try simp only [xst, xst2, xclr, xset, xwide]
        refine x_goto (tgt := 18) dX3_firstWrong_48 rfl ?_
        exact ih18 (i + 1) _ (by omega) (xFrv hF4) hg4 hr4 (by omega)
  exact K18 _ 0 I1 (Nat.zero_le _) hF1.mono hg1 hr1 (Nat.lt_succ_self _)

set_option maxHeartbeats 4000000 in
set_option maxRecDepth 100000 in
theorem m_Guesses_leastCheat {g : xG} {nx : Nat} {sh : Nat → Nat × Nat} {P : Nat → Nat → Option Nat} {I : Nat → Nat → Int32} (hx : xFx sh P) {s : Nat → Int32} (hW : xWN nx sh P I s) (hR : RI s) {t : Nat} (ht : tpN s = nI t) (ht1 : 1 ≤ t) (ht9 : t ≤ 9) : xMet g Y_Guesses_leastCheat 5 0 0 [.ref 100] (nx, sh, P, I) (fun r σ => ∃ I1 : Nat → Nat → Int32, r = some (.int (if mnC (cnI s t) (nGu s t) ≤ 60 then mnC (cnI s t) (nGu s t) else -5)) ∧ σ = (nx, sh, P, I1) ∧ xFrm [80, 102, 103, 104, 105, 106] I I1) := by
  refine xMet.of [some (.ref 100), none, none, none] (by decide +kernel) (Nat.le_of_ble_eq_true rfl) rfl ?_
  obtain ⟨⟨tTape, tCoins, tWares, tBuys, tSlates, tPlans, tBooked⟩, ⟨cTape, cCoins, cWares, cBuys, cSlates, cPlans, cBooked⟩, hW7, hW9, hL⟩ := id hW
  obtain ⟨⟨n0, b0, e0⟩, ⟨n1, b1, e1⟩, ⟨n2, b2, e2⟩, ⟨n3, b3, e3⟩, ⟨n4, b4, e4⟩, ⟨n5, b5, e5⟩, ⟨n6, b6, e6⟩, ⟨n7, b7, e7⟩, ⟨n9, b9, e9⟩⟩ := hR.k
  have k7 : cN s 7 = n7 := cN_of e7 (by omega)
  rw [k7] at tTape cTape
  have k0 : cN s 0 = n0 := cN_of e0 (by omega)
  rw [k0] at tCoins cCoins
  have k1 : cN s 1 = n1 := cN_of e1 (by omega)
  rw [k1] at tWares cWares
  have k3 : cN s 3 = n3 := cN_of e3 (by omega)
  rw [k3] at tBuys cBuys
  have k4 : cN s 4 = n4 := cN_of e4 (by omega)
  rw [k4] at tSlates cSlates
  have k5 : cN s 5 = n5 := cN_of e5 (by omega)
  rw [k5] at tPlans cPlans
  have k6 : cN s 6 = n6 := cN_of e6 (by omega)
  rw [k6] at tBooked cBooked
  refine x_bipush (v := 61) dX3_leastCheat_0 (by decide) ?_
  refine x_istore_n dX3_leastCheat_2 (Nat.le_of_ble_eq_true rfl) ?_
  try simp only [xst, xst2, xclr, xset, xwide]
  refine x_aload_n dX3_leastCheat_3 rfl ?_
  refine x_callV (k2 := 0) (n2 := 0) dX3_leastCheat_4 LV_Guesses_100 (m_Guesses_start hx hW hR ht ht1 ht9) rfl rfl (fxo_100 hx) rfl (Nat.le_of_ble_eq_true rfl) (Nat.le_of_ble_eq_true rfl) (Nat.le_of_ble_eq_true rfl) (Nat.le_of_ble_eq_true rfl) ?_
  rintro _ _ ⟨I1, rfl, rfl, hF1, hg1, hr1⟩
  have hN9 := nGu_le (s := s) ht1 ht9
  rw [show sfx (gLn (cN s 0) t) 4 0 = nGu s t from rfl]
  refine x_istore_n dX3_leastCheat_7 (Nat.le_of_ble_eq_true rfl) ?_
  try simp only [xst, xst2, xclr, xset, xwide]
  refine x_iconst (v := 0) dX3_leastCheat_8 (by decide) ?_
  refine x_istore_n dX3_leastCheat_9 (Nat.le_of_ble_eq_true rfl) ?_
  try simp only [xst, xst2, xclr, xset, xwide]
  have K10 : ∀ (fuel : Nat) (i : Nat) (I2 : Nat → Nat → Int32) (hi : i ≤ nGu s t) (hF : xFrm [80, 102, 103, 104, 105, 106] I I2) (hg : xGst I2 s t) (hr : xRwAt (I2 102) (gLn (cN s 0) t) 4 i (I2 104)), nGu s t - i < fuel → xX g Y_Guesses_leastCheat 5 0 0 (fun r σ => ∃ I1 : Nat → Nat → Int32, r = some (.int (if mnC (cnI s t) (nGu s t) ≤ 60 then mnC (cnI s t) (nGu s t) else -5)) ∧ σ = (nx, sh, P, I1) ∧ xFrm [80, 102, 103, 104, 105, 106] I I1) 10 [some (.ref 100), some (.int (mnC (cnI s t) i)), some (.int (nI (nGu s t))), some (.int (nI i))] [] (nx, sh, P, I2) := by
    intro fuel
    induction fuel with
    | zero => intro i I2 hi hF hg hr hm; exact absurd hm (Nat.not_lt_zero _)
    | succ fuel ih10 =>
      intro i I2 hi hF hg hr hm
      refine x_iload_n dX3_leastCheat_10 rfl ?_
      refine x_iload_n dX3_leastCheat_11 rfl ?_
      refine x_icmp_ge (tgt := 41) dX3_leastCheat_12 rfl (fun c12 => ?_) (fun c12 => ?_)
      · have hie : i = nGu s t := cge_t (by omega) hi c12
        refine x_iload_n dX3_leastCheat_41 rfl ?_
        refine x_bipush (v := 60) dX3_leastCheat_42 (by decide) ?_
        refine x_icmp_le (tgt := 52) dX3_leastCheat_44 rfl (fun c44 => ?_) (fun c44 => ?_)
        · refine x_iload_n dX3_leastCheat_52 rfl ?_
          refine x_ireturn dX3_leastCheat_53 rfl nb_int ?_
          subst hie
          first | exact ⟨I2, by rw [if_neg c44], rfl, hF⟩ | exact ⟨I2, by rw [if_pos c44], rfl, hF⟩
        · refine x_bipush (v := (-5)) dX3_leastCheat_47 (by decide) ?_
          refine x_goto (tgt := 53) dX3_leastCheat_49 rfl ?_
          refine x_ireturn dX3_leastCheat_53 rfl nb_int ?_
          subst hie
          first | exact ⟨I2, by rw [if_neg c44], rfl, hF⟩ | exact ⟨I2, by rw [if_pos c44], rfl, hF⟩
      · have him : i < nGu s t := cge_f (by omega) hi c12
        refine x_aload_n dX3_leastCheat_15 rfl ?_
        refine x_callV (k2 := 0) (n2 := 0) dX3_leastCheat_16 LV_Guesses_101 (m_Guesses_weigh (I := I2) (W := fun c b => if c < cN s 0 ∧ 1 ≤ b then wb s c b else 0) (v := gvI (cN s 0) t i) hx hg.2 (hg.at ht1 ht9 hr)) rfl rfl (fxo_100 hx) rfl (Nat.le_of_ble_eq_true rfl) (Nat.le_of_ble_eq_true rfl) (Nat.le_of_ble_eq_true rfl) (Nat.le_of_ble_eq_true rfl) ?_
        rintro _ _ ⟨F, rfl, rfl, hFv⟩
        have hFg : ∀ c, c < 4 → va_up I2 106 F 106 c = gwV s (gvI (cN s 0) t i) c := fun c hc => by rw [va_up_at, hFv c hc]; exact xGst.gw c hc
        have hW3 : xWN nx sh P (va_up I2 106 F) s := hW.fl (l := [80, 102, 103, 104, 105, 106]) (xFrv hF)
        obtain ⟨I4, hI4⟩ : ∃ I4, I4 = va_up I2 106 F := ⟨_, rfl⟩
        rw [← hI4] at hFg hW3
        refine y_st (I' := I4) hI4.symm ?_
        have hF4 : xFrm [80, 102, 103, 104, 105, 106] I I4 := by rw [hI4]; exact xFrv hF
        have hg5 : xGst I4 s t := by rw [hI4]; exact ⟨fun c hc => by rw [va_up_no (by decide), va_up_no (by decide)]; exact hg.1 c hc, fun c b hc hb => by rw [va_up_no (by decide)]; exact hg.2 c b hc hb⟩
        have hr5 : xRwAt (I4 102) (gLn (cN s 0) t) 4 i (I4 104) := by rw [hI4, va_up_no (by decide), va_up_no (by decide)]; exact hr
        refine x_iload_n dX3_leastCheat_19 rfl ?_
        refine x_aload_n dX3_leastCheat_20 rfl ?_
        refine x_callV (k2 := 0) (n2 := 0) dX3_leastCheat_21 LV_Guesses_139 (m_Guesses_cheatNeeded (I := I4) (v := gvI (cN s 0) t i) hx hW3 hR hFg) rfl rfl (fxo_100 hx) rfl (Nat.le_of_ble_eq_true rfl) (Nat.le_of_ble_eq_true rfl) (Nat.le_of_ble_eq_true rfl) (Nat.le_of_ble_eq_true rfl) ?_
        rintro _ _ ⟨rfl, rfl⟩
        rw [show cnN s (gvI (cN s 0) t i) (cN s 3) 0 0 = cnI s t i from rfl]
        refine x_callS (k2 := 0) (n2 := 0) dX3_leastCheat_24 LS_Guesses_125 m_min rfl rfl (Nat.le_of_ble_eq_true rfl) (Nat.le_of_ble_eq_true rfl) (Nat.le_of_ble_eq_true rfl) (Nat.le_of_ble_eq_true rfl) ?_
        rintro _ _ ⟨rfl, rfl⟩
        rw [show (if mnC (cnI s t) i ≤ cnI s t i then mnC (cnI s t) i else cnI s t i) = mnC (cnI s t) (i + 1) from rfl]
        refine x_istore_n dX3_leastCheat_27 (Nat.le_of_ble_eq_true rfl) ?_
        try simp only [xst, xst2, xclr, xset, xwide]
        refine x_aload_n dX3_leastCheat_28 rfl ?_
        refine y_getr dX3_leastCheat_29 F_Guesses_14 (fxo_100 hx) rfl (fxp_100_1 hx) ?_
        refine x_callV (k2 := 0) (n2 := 0) dX3_leastCheat_32 LV_Guesses_110 (m_Rows_step (I := I4) (xrG hx)) rfl rfl (fxo_101 hx) rfl (Nat.le_of_ble_eq_true rfl) (Nat.le_of_ble_eq_true rfl) (Nat.le_of_ble_eq_true rfl) (Nat.le_of_ble_eq_true rfl) ?_
        rintro _ _ ⟨rfl, rfl⟩
        have hst := xRwAt.st (hg5.lh ht1 ht9) hr5
        have hg4 : xGst (va_up I4 104 (xNx (I4 102) (I4 103) 4 (I4 104))) s t := ⟨fun c hc => by rw [va_up_no (by decide), va_up_no (by decide)]; exact hg5.1 c hc, fun c b hc hb => by rw [va_up_no (by decide)]; exact hg5.2 c b hc hb⟩
        have hr4 : xRwAt (va_up I4 104 (xNx (I4 102) (I4 103) 4 (I4 104)) 102) (gLn (cN s 0) t) 4 (i + 1) (va_up I4 104 (xNx (I4 102) (I4 103) 4 (I4 104)) 104) := by rw [va_up_at, va_up_no (by decide)]; exact hst
        refine x_iinc (v := (nI (i + 1))) dX3_leastCheat_35 rfl (nI_1 _) (Nat.le_of_ble_eq_true rfl) ?_
        try simp only [xst, xst2, xclr, xset, xwide]
        refine x_goto (tgt := 10) dX3_leastCheat_38 rfl ?_
        exact ih10 (i + 1) _ (by omega) (xFrv hF4) hg4 hr4 (by omega)
  exact K10 _ 0 I1 (Nat.zero_le _) hF1.mono hg1 hr1 (Nat.lt_succ_self _)
