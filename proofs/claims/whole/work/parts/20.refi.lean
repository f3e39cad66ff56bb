/-! the reference: questions about paying -/
def puN (s : Nat → Int32) (c : Nat) : Nat := if c < cN s 0 then (s (22 + c)).toNatClampNeg else 0
theorem puN_bd {s : Nat → Int32} (h : RI s) (c : Nat) : puN s c ≤ 9 := by
  unfold puN
  by_cases hc : c < cN s 0
  · rw [if_pos hc]
    obtain ⟨p, hp, e⟩ := pu_of h hc
    rw [e, nI_clamp (by omega)]; exact hp
  · rw [if_neg hc]; omega
/-- two runs tell the same -/
def pyE (a b : PS) : Prop := a.1 = b.1 ∧ a.2.1 = b.2.1 ∧ (¬ a.1 = 1000000 → a.2.2 = b.2.2)
theorem pyK_E {f g : Nat → PS → PS} (h : ∀ k a b, pyE a b → pyE (f k a) (g k b)) : ∀ k a b, pyE a b → pyE (pyK f k a) (pyK g k b)
  | 0, _, _, e => e
  | k + 1, a, b, e => h k _ _ (pyK_E h k a b e)
theorem pyL_E {w : Nat → Int32} {bk pu : Nat → Nat} : ∀ m c left coins rows rows' a b, (∀ j, j < c → rows j = rows' j) → c + m = 4 → (∀ j, 4 ≤ j → rows j = rows' j) → pyE a b → pyE (pyL w bk pu m c left coins rows a) (pyL w bk pu m c left coins rows' b)
  | 0, c, left, coins, rows, rows', a, b, hr, hc, hr4, e => by
    have hrr : rows = rows' := funext fun j => by
      rcases Nat.lt_or_ge j 4 with z | z
      · exact hr j (by omega)
      · exact hr4 j z
    subst hrr
    unfold pyL
    by_cases h1 : left = 0
    · rw [if_pos h1, if_pos h1, ← e.1]
      by_cases h2 : coins < a.1
      · rw [if_pos h2, if_pos h2]; exact ⟨rfl, by rw [e.2.1], fun _ => rfl⟩
      · rw [if_neg h2, if_neg h2]; exact ⟨rfl, by rw [e.2.1], e.2.2⟩
    · rw [if_neg h1, if_neg h1]; exact e
  | m + 1, c, left, coins, rows, rows', a, b, hr, hc, hr4, e => by
    rw [pyL_s, pyL_s]
    refine pyK_E ?_ _ _ _ e
    intro k x y exy
    refine pyL_E m (c + 1) _ _ _ _ x y ?_ (by omega) ?_ exy
    · intro j hj
      unfold upd
      by_cases h : j = c
      · rw [if_pos h, if_pos h]
      · rw [if_neg h, if_neg h]; exact hr j (by omega)
    · intro j hj
      unfold upd
      rw [if_neg (by omega), if_neg (by omega)]; exact hr4 j hj
/-- paying p, giving back at most back of a sort -/
def pyA (s : Nat → Int32) (p : Int32) (back : Nat) : PS := pyL (wv s) (bkN (cN s 0) back) (puN s) 4 0 p 0 (fun _ => 0) (1000000, 0, fun _ => 0)
def a_pay (s : Nat → Int32) (p k : Int32) : Int32 := if -1 ≤ k ∧ k ≤ 3 then (if 0 ≤ p ∧ p ≤ 99 then (if (pyA s p 0).1 = 1000000 ∨ s 0 ≤ k then -5 else if k = -1 then (pyA s p 0).1 else (pyA s p 0).2.2 k.toNatClampNeg) else -2) else -1
def a_ways (s : Nat → Int32) (p : Int32) : Int32 := if 0 ≤ p ∧ p ≤ 99 then (pyA s p 0).2.1 else -2
def a_change (s : Nat → Int32) (p : Int32) : Int32 := if 0 ≤ p ∧ p ≤ 99 then (if (pyA s p 3).1 = 1000000 then -5 else (pyA s p 3).1) else -2
/-- what paying leaves -/
def xPN (I I1 : Nat → Nat → Int32) (p : Int32) (back : Nat) : Prop := xFrm [127, 130, 131, 132, 136, 137, 138] I I1 ∧ xFd [24, 25] I I1 ∧ (∀ c, c < 4 → I1 132 c = wv (I 128) c) ∧ I1 127 24 = (pyA (I 128) p back).1 ∧ I1 127 25 = (pyA (I 128) p back).2.1 ∧ (¬ (pyA (I 128) p back).1 = 1000000 → ∀ k, k < 4 → I1 138 k = (pyA (I 128) p back).2.2 k)

set_option maxHeartbeats 4000000 in
set_option maxRecDepth 100000 in
theorem r_pursed {g : xG} {nx : Nat} {sh : Nat → Nat × Nat} {P : Nat → Nat → Option Nat} {I : Nat → Nat → Int32} (hx : xFx sh P) (hR : RI (I 128)) : xMet g Y_M_pursed 0 0 0 [.ref 127] (nx, sh, P, I) (fun r σ => ∃ I1 : Nat → Nat → Int32, r = none ∧ σ = (nx, sh, P, I1) ∧ xFrm [136] I I1 ∧ ∀ c, c < 4 → I1 136 c = nI (puN (I 128) c)) := by
  refine xMet.of [some (.ref 127), none] (by decide +kernel) (Nat.le_of_ble_eq_true rfl) rfl ?_
  obtain ⟨⟨n0, b0, e0⟩, ⟨n1, b1, e1⟩, ⟨n2, b2, e2⟩, ⟨n3, b3, e3⟩, ⟨n4, b4, e4⟩, ⟨n5, b5, e5⟩, ⟨n6, b6, e6⟩, ⟨n7, b7, e7⟩, ⟨n9, b9, e9⟩⟩ := hR.k
  refine x_iconst (v := 0) dX11_pursed_0 (by decide) ?_
  refine x_istore_n dX11_pursed_1 (Nat.le_of_ble_eq_true rfl) ?_
  try simp only [xst, xst2, xclr, xset, xwide]
  refine y_st (I' := va_up I 136 (I 136)) (by rw [va_up_id]) ?_
  have K2 : ∀ (fuel : Nat) (c : Nat) (f : Nat → Int32) (hc : c ≤ 4) (hf : ∀ j, j < c → f j = nI (puN (I 128) j)), 4 - c < fuel → xX g Y_M_pursed 0 0 0 (fun r σ => ∃ I1 : Nat → Nat → Int32, r = none ∧ σ = (nx, sh, P, I1) ∧ xFrm [136] I I1 ∧ ∀ c, c < 4 → I1 136 c = nI (puN (I 128) c)) 2 [some (.ref 127), some (.int (nI c))] [] (nx, sh, P, va_up I 136 f) := by
    intro fuel
    induction fuel with
    | zero => intro c f hc hf hm; exact absurd hm (Nat.not_lt_zero _)
    | succ fuel ih2 =>
      intro c f hc hf hm
      refine x_iload_n dX11_pursed_2 rfl ?_
      refine x_iconst (v := 4) dX11_pursed_3 (by decide) ?_
      refine x_icmp_ge (tgt := 42) dX11_pursed_4 rfl (fun c4 => ?_) (fun c4 => ?_)
      · have hie : c = 4 := cge_t (by decide) hc c4
        subst hie
        refine x_return dX11_pursed_42 rfl ?_
        exact ⟨_, rfl, rfl, xFrv xFrm.rf, fun c hc => by rw [va_up_at]; exact hf c hc⟩
      · have him : c < 4 := cge_f (by decide) hc c4
        have J35 : ∀ (x : Int32) (hxv : x = nI (puN (I 128) c)), xX g Y_M_pursed 0 0 0 (fun r σ => ∃ I1 : Nat → Nat → Int32, r = none ∧ σ = (nx, sh, P, I1) ∧ xFrm [136] I I1 ∧ ∀ c, c < 4 → I1 136 c = nI (puN (I 128) c)) 35 [some (.ref 127), some (.int (nI c))] [.int x, .int (nI c), .ref 136] (nx, sh, P, va_up I 136 f) := by
          intro x hxv
          rw [hxv]
          refine y_iastore dX11_pursed_35 (fxk_136 hx) (vi (j := c) rfl (by omega) (by decide)) (ci (j := c) rfl (by omega)) ?_
          rw [xup_row]
          refine x_iinc (v := (nI (c + 1))) dX11_pursed_36 rfl (nI_1 _) (Nat.le_of_ble_eq_true rfl) ?_
          try simp only [xst, xst2, xclr, xset, xwide]
          refine x_goto (tgt := 2) dX11_pursed_39 rfl ?_
          exact ih2 (c + 1) _ (by omega) (fun j hj => by
            unfold upd
            by_cases h : j = c
            · rw [if_pos h, h]
            · rw [if_neg h]; exact hf j (by omega)) (by omega)
        refine x_aload_n dX11_pursed_7 rfl ?_
        refine y_getr dX11_pursed_8 F_M_37 (fxo_127 hx) rfl (fxp_127_20 hx) ?_
        refine x_iload_n dX11_pursed_11 rfl ?_
        refine x_iload_n dX11_pursed_12 rfl ?_
        refine x_aload_n dX11_pursed_13 rfl ?_
        refine y_getr dX11_pursed_14 F_M_9 (fxo_127 hx) rfl (fxp_127_1 hx) ?_
        refine x_iconst (v := 0) dX11_pursed_17 (by decide) ?_
        refine y_iaload dX11_pursed_18 (fxk_128 hx) (vi (j := 0) rfl (by omega) (by decide)) (rI (j := 0) rfl e0) ?_
        refine x_icmp_ge (tgt := 34) dX11_pursed_19 rfl (fun c19 => ?_) (fun c19 => ?_)
        · have hge : n0 ≤ c := (nI_leI (by omega) (by omega)).mp c19
          have hz : (0 : Int32) = nI (puN (I 128) c) := by unfold puN; rw [cN_of e0 (by omega), if_neg (by omega)]; rfl
          refine x_iconst (v := 0) dX11_pursed_34 (by decide) ?_
          first | exact J35 _ rfl | exact J35 _ hz
        · have hlt : c < n0 := Nat.lt_of_not_le (fun h => c19 ((nI_leI (by omega) (by omega)).mpr h))
          have hcl : c < cN (I 128) 0 := by rw [cN_of e0 (by omega)]; exact hlt
          have hval : va_up I 136 f 128 (22 + c) = nI (puN (I 128) c) := by
            unfold puN
            rw [if_pos hcl, va_up_no (by decide)]
            obtain ⟨p, hp, e⟩ := pu_of hR hcl
            rw [e, nI_clamp (by omega)]
          refine x_aload_n dX11_pursed_22 rfl ?_
          refine y_getr dX11_pursed_23 F_M_9 (fxo_127 hx) rfl (fxp_127_1 hx) ?_
          refine x_bipush (v := 22) dX11_pursed_26 (by decide) ?_
          refine x_iload_n dX11_pursed_28 rfl ?_
          refine x_iadd dX11_pursed_29 ?_
          refine y_iaload dX11_pursed_30 (fxk_128 hx) (vi (j := (22 + c)) (nadd (a := 22) (b := c) rfl rfl) (by omega) (by decide)) (rI (j := (22 + c)) (ci (nadd (a := 22) (b := c) rfl rfl) (by omega)) hval) ?_
          refine x_goto (tgt := 35) dX11_pursed_31 rfl ?_
          first | exact J35 _ rfl | exact J35 _ hz
  exact K2 _ 0 (I 136) (by decide) (fun j h => absurd h (Nat.not_lt_zero _)) (Nat.lt_succ_self _)

set_option maxHeartbeats 4000000 in
set_option maxRecDepth 100000 in
theorem r_pays {g : xG} {nx : Nat} {sh : Nat → Nat × Nat} {P : Nat → Nat → Option Nat} {I : Nat → Nat → Int32} (hx : xFx sh P) {p : Int32} {n0 back : Nat} {w : Nat → Int32} {pu : Nat → Nat} (hn0 : n0 ≤ 4) (e0 : I 128 0 = nI n0) (hbk : back ≤ 3) (hW : xPW I w pu) : xMet g Y_M_pays 5 0 0 [.ref 127, .int p, .int (nI back)] (nx, sh, P, I) (fun r σ => ∃ I1 : Nat → Nat → Int32, r = none ∧ σ = (nx, sh, P, I1) ∧ xFrm [127, 137, 138] I I1 ∧ xFd [24, 25] I I1 ∧ xBR I1 (pyL w (bkN n0 back) pu 4 0 p 0 (fun _ => 0) (1000000, 0, I 138))) := by
  refine xMet.of [some (.ref 127), some (.int p), some (.int (nI back))] (by decide +kernel) (Nat.le_of_ble_eq_true rfl) rfl ?_
  refine x_aload_n dX11_pays_0 rfl ?_
  refine x_ldc dX11_pays_1 KI_X11_180 ?_
  refine x_puti dX11_pays_3 F_M_236 T_11_24 (fxo_127 hx) rfl rfl rfl ?_
  refine x_aload_n dX11_pays_6 rfl ?_
  refine x_iconst (v := 0) dX11_pays_7 (by decide) ?_
  refine x_puti dX11_pays_8 F_M_233 T_11_25 (fxo_127 hx) rfl rfl rfl ?_
  refine x_aload_n dX11_pays_11 rfl ?_
  refine x_iconst (v := 0) dX11_pays_12 (by decide) ?_
  refine x_iload_n dX11_pays_13 rfl ?_
  refine x_iconst (v := 0) dX11_pays_14 (by decide) ?_
  refine x_iload_n dX11_pays_15 rfl ?_
  refine x_callV (k2 := 0) (n2 := 0) dX11_pays_16 LV_M_239 (r_paysFrom 4 nx sh P (xup (xup I 127 24 1000000) 127 25 0) 0 p 0 (fun _ => 0) (1000000, 0, I 138) n0 back w pu hx rfl hn0 (by rw [xup_n (by decide), xup_n (by decide)]; exact e0) hbk (by unfold xPW; rw [xup_n (by decide), xup_n (by decide), xup_n (by decide), xup_n (by decide)]; exact hW) (fun j hj => absurd hj (Nat.not_lt_zero _)) ⟨by rw [xup_at, if_neg (by decide), xup_at, if_pos ⟨rfl, rfl⟩], by rw [xup_at, if_pos ⟨rfl, rfl⟩], fun k hk => by rw [xup_n (by decide), xup_n (by decide)]⟩) rfl rfl (fxo_127 hx) rfl (Nat.le_of_ble_eq_true rfl) (Nat.le_of_ble_eq_true rfl) (Nat.le_of_ble_eq_true rfl) (Nat.le_of_ble_eq_true rfl) ?_
  rintro _ _ ⟨I4, rfl, rfl, hF4, hD4, -, hS4⟩
  refine x_return dX11_pays_19 rfl ?_
  exact ⟨I4, rfl, rfl, xFrm.tr (l := [127, 137, 138]) (l1 := [127]) (xFrs (xFrs xFrm.rf)) hF4, xFd.tr (l := [24, 25]) (l1 := [24, 25]) (xFdx (xFdx xFd.rf)) hD4, hS4⟩

set_option maxHeartbeats 4000000 in
set_option maxRecDepth 100000 in
theorem r_paysNow {g : xG} {nx : Nat} {sh : Nat → Nat × Nat} {P : Nat → Nat → Option Nat} {I : Nat → Nat → Int32} (hx : xFx sh P) {p : Int32} {back : Nat} (hR : RI (I 128)) (hbk : back ≤ 3) : xMet g Y_M_paysNow 6 0 0 [.ref 127, .int p, .int (nI back)] (nx, sh, P, I) (fun r σ => ∃ I1 : Nat → Nat → Int32, r = none ∧ σ = (nx, sh, P, I1) ∧ xPN I I1 p back) := by
  refine xMet.of [some (.ref 127), some (.int p), some (.int (nI back))] (by decide +kernel) (Nat.le_of_ble_eq_true rfl) rfl ?_
  refine x_aload_n dX11_paysNow_0 rfl ?_
  refine x_callV (k2 := 0) (n2 := 0) dX11_paysNow_1 LV_M_165 (r_looksForWorths hx hR) rfl rfl (fxo_127 hx) rfl (Nat.le_of_ble_eq_true rfl) (Nat.le_of_ble_eq_true rfl) (Nat.le_of_ble_eq_true rfl) (Nat.le_of_ble_eq_true rfl) ?_
  rintro _ _ ⟨I1, rfl, rfl, hF, hW⟩
  have e128 : I1 128 = I 128 := hF 128 (by decide)
  refine x_aload_n dX11_paysNow_4 rfl ?_
  refine x_callV (k2 := 0) (n2 := 0) dX11_paysNow_5 LV_M_243 (r_pursed (I := I1) hx (by rw [e128]; exact hR)) rfl rfl (fxo_127 hx) rfl (Nat.le_of_ble_eq_true rfl) (Nat.le_of_ble_eq_true rfl) (Nat.le_of_ble_eq_true rfl) (Nat.le_of_ble_eq_true rfl) ?_
  rintro _ _ ⟨I2, rfl, rfl, hF2, hP2⟩
  have f128 : I2 128 = I 128 := (hF2 128 (by decide)).trans e128
  rw [e128] at hP2
  refine x_aload_n dX11_paysNow_8 rfl ?_
  refine x_iload_n dX11_paysNow_9 rfl ?_
  refine x_iload_n dX11_paysNow_10 rfl ?_
  refine x_callV (k2 := 0) (n2 := 0) dX11_paysNow_11 LV_M_246 (r_pays (I := I2) (n0 := cN (I 128) 0) (back := back) (w := wv (I 128)) (pu := puN (I 128)) hx hR.c0.2 (by rw [f128]; exact hR.c0.1) hbk ⟨fun c hc => ⟨hP2 c hc, puN_bd hR c⟩, fun c hc => (congrFun (hF2 132 (by decide)) c).trans (hW c hc)⟩) rfl rfl (fxo_127 hx) rfl (Nat.le_of_ble_eq_true rfl) (Nat.le_of_ble_eq_true rfl) (Nat.le_of_ble_eq_true rfl) (Nat.le_of_ble_eq_true rfl) ?_
  rintro _ _ ⟨I3, rfl, rfl, hF3, hD3, hS3⟩
  refine x_return dX11_paysNow_14 rfl ?_
  have hE := pyL_E (w := wv (I 128)) (bk := bkN (cN (I 128) 0) back) (pu := puN (I 128)) 4 0 p 0 (fun _ => 0) (fun _ => 0) (1000000, 0, I2 138) (1000000, 0, fun _ => 0) (fun _ _ => rfl) rfl (fun _ _ => rfl) ⟨rfl, rfl, fun h => absurd rfl h⟩
  refine ⟨I3, rfl, rfl, (hF.tr (l := [127, 130, 131, 132, 136, 137, 138]) hF2).tr hF3, ?_, ?_, hS3.1.trans hE.1, hS3.2.1.trans hE.2.1, fun h k hk => (hS3.2.2 k hk).trans (congrFun (hE.2.2 (by rw [hE.1]; exact h)) k)⟩
  · exact xFd.tr (l := [24, 25]) (l1 := [24, 25]) (xFd.tr (l := [24, 25]) (l1 := [24, 25]) (l2 := [24, 25]) (xFd.of hF) (xFd.of hF2)) hD3
  · intro c hc
    exact (congrFun (hF3 132 (by decide)) c).trans ((congrFun (hF2 132 (by decide)) c).trans (hW c hc))

set_option maxHeartbeats 4000000 in
set_option maxRecDepth 100000 in
theorem r_ways {g : xG} {nx : Nat} {sh : Nat → Nat × Nat} {P : Nat → Nat → Option Nat} {I : Nat → Nat → Int32} (hx : xFx sh P) {p : Int32} (hR : RI (I 128)) : xMet g Y_M_ways 7 0 0 [.ref 127, .int p] (nx, sh, P, I) (fun r σ => ∃ I1 : Nat → Nat → Int32, r = some (.int (a_ways (I 128) p)) ∧ σ = (nx, sh, P, I1) ∧ xFrm [127, 130, 131, 132, 136, 137, 138] I I1 ∧ xFd [24, 25] I I1) := by
  refine xMet.of [some (.ref 127), some (.int p)] (by decide +kernel) (Nat.le_of_ble_eq_true rfl) rfl ?_
  refine x_iload_n dX11_ways_0 rfl ?_
  refine x_iconst (v := 0) dX11_ways_1 (by decide) ?_
  refine x_bipush (v := 99) dX11_ways_2 (by decide) ?_
  refine x_callS (k2 := 0) (n2 := 0) dX11_ways_4 LS_M_65 r_in rfl rfl (Nat.le_of_ble_eq_true rfl) (Nat.le_of_ble_eq_true rfl) (Nat.le_of_ble_eq_true rfl) (Nat.le_of_ble_eq_true rfl) ?_
  rintro _ _ ⟨rfl, rfl⟩
  refine x_if_ne (tgt := 13) dX11_ways_7 rfl (fun c7 => ?_) (fun c7 => ?_)
  · refine x_aload_n dX11_ways_13 rfl ?_
    refine x_iload_n dX11_ways_14 rfl ?_
    refine x_iconst (v := 0) dX11_ways_15 (by decide) ?_
    refine x_callV (k2 := 0) (n2 := 0) dX11_ways_16 LV_M_249 (r_paysNow (p := p) (back := 0) hx hR (by decide)) rfl rfl (fxo_127 hx) rfl (Nat.le_of_ble_eq_true rfl) (Nat.le_of_ble_eq_true rfl) (Nat.le_of_ble_eq_true rfl) (Nat.le_of_ble_eq_true rfl) ?_
    rintro _ _ ⟨I1, rfl, rfl, hF, hD, hWv, h24, h25, h138⟩
    have e128 : I1 128 = I 128 := hF 128 (by decide)
    refine x_aload_n dX11_ways_19 rfl ?_
    refine y_geti dX11_ways_20 F_M_233 (fxo_127 hx) rfl h25 ?_
    refine x_ireturn dX11_ways_23 rfl nb_int ?_
    exact ⟨I1, by unfold a_ways; rw [if_pos (b_t c7)], rfl, hF, hD⟩
  · refine x_bipush (v := (-2)) dX11_ways_10 (by decide) ?_
    refine x_ireturn dX11_ways_12 rfl nb_int ?_
    exact ⟨I, by unfold a_ways; rw [if_neg (b_f c7)], rfl, xFrm.rf, xFd.rf⟩

set_option maxHeartbeats 4000000 in
set_option maxRecDepth 100000 in
theorem r_change {g : xG} {nx : Nat} {sh : Nat → Nat × Nat} {P : Nat → Nat → Option Nat} {I : Nat → Nat → Int32} (hx : xFx sh P) {p : Int32} (hR : RI (I 128)) : xMet g Y_M_change 7 0 0 [.ref 127, .int p] (nx, sh, P, I) (fun r σ => ∃ I1 : Nat → Nat → Int32, r = some (.int (a_change (I 128) p)) ∧ σ = (nx, sh, P, I1) ∧ xFrm [127, 130, 131, 132, 136, 137, 138] I I1 ∧ xFd [24, 25] I I1) := by
  refine xMet.of [some (.ref 127), some (.int p)] (by decide +kernel) (Nat.le_of_ble_eq_true rfl) rfl ?_
  refine x_iload_n dX11_change_0 rfl ?_
  refine x_iconst (v := 0) dX11_change_1 (by decide) ?_
  refine x_bipush (v := 99) dX11_change_2 (by decide) ?_
  refine x_callS (k2 := 0) (n2 := 0) dX11_change_4 LS_M_65 r_in rfl rfl (Nat.le_of_ble_eq_true rfl) (Nat.le_of_ble_eq_true rfl) (Nat.le_of_ble_eq_true rfl) (Nat.le_of_ble_eq_true rfl) ?_
  rintro _ _ ⟨rfl, rfl⟩
  refine x_if_ne (tgt := 13) dX11_change_7 rfl (fun c7 => ?_) (fun c7 => ?_)
  · refine x_aload_n dX11_change_13 rfl ?_
    refine x_iload_n dX11_change_14 rfl ?_
    refine x_iconst (v := 3) dX11_change_15 (by decide) ?_
    refine x_callV (k2 := 0) (n2 := 0) dX11_change_16 LV_M_249 (r_paysNow (p := p) (back := 3) hx hR (by decide)) rfl rfl (fxo_127 hx) rfl (Nat.le_of_ble_eq_true rfl) (Nat.le_of_ble_eq_true rfl) (Nat.le_of_ble_eq_true rfl) (Nat.le_of_ble_eq_true rfl) ?_
    rintro _ _ ⟨I1, rfl, rfl, hF, hD, hWv, h24, h25, h138⟩
    have e128 : I1 128 = I 128 := hF 128 (by decide)
    refine x_aload_n dX11_change_19 rfl ?_
    refine y_geti dX11_change_20 F_M_236 (fxo_127 hx) rfl h24 ?_
    refine x_ldc dX11_change_23 KI_X11_180 ?_
    refine x_icmp_ne (tgt := 33) dX11_change_25 rfl (fun c25 => ?_) (fun c25 => ?_)
    · refine x_aload_n dX11_change_33 rfl ?_
      refine y_geti dX11_change_34 F_M_236 (fxo_127 hx) rfl h24 ?_
      refine x_ireturn dX11_change_37 rfl nb_int ?_
      first | exact ⟨I1, by unfold a_change; rw [if_pos (b_t c7), if_pos (by first | exact c25 | exact Classical.byContradiction c25)], rfl, hF, hD⟩ | exact ⟨I1, by unfold a_change; rw [if_pos (b_t c7), if_neg c25], rfl, hF, hD⟩
    · refine x_bipush (v := (-5)) dX11_change_28 (by decide) ?_
      refine x_goto (tgt := 37) dX11_change_30 rfl ?_
      refine x_ireturn dX11_change_37 rfl nb_int ?_
      first | exact ⟨I1, by unfold a_change; rw [if_pos (b_t c7), if_pos (by first | exact c25 | exact Classical.byContradiction c25)], rfl, hF, hD⟩ | exact ⟨I1, by unfold a_change; rw [if_pos (b_t c7), if_neg c25], rfl, hF, hD⟩
  · refine x_bipush (v := (-2)) dX11_change_10 (by decide) ?_
    refine x_ireturn dX11_change_12 rfl nb_int ?_
    exact ⟨I, by unfold a_change; rw [if_neg (b_f c7)], rfl, xFrm.rf, xFd.rf⟩

set_option maxHeartbeats 4000000 in
set_option maxRecDepth 100000 in
theorem r_pay {g : xG} {nx : Nat} {sh : Nat → Nat × Nat} {P : Nat → Nat → Option Nat} {I : Nat → Nat → Int32} (hx : xFx sh P) {p k : Int32} (hR : RI (I 128)) : xMet g Y_M_pay 7 0 0 [.ref 127, .int p, .int k] (nx, sh, P, I) (fun r σ => ∃ I1 : Nat → Nat → Int32, r = some (.int (a_pay (I 128) p k)) ∧ σ = (nx, sh, P, I1) ∧ xFrm [127, 130, 131, 132, 136, 137, 138] I I1 ∧ xFd [24, 25] I I1) := by
  refine xMet.of [some (.ref 127), some (.int p), some (.int k)] (by decide +kernel) (Nat.le_of_ble_eq_true rfl) rfl ?_
  obtain ⟨⟨n0, b0, e0⟩, ⟨n1, b1, e1⟩, ⟨n2, b2, e2⟩, ⟨n3, b3, e3⟩, ⟨n4, b4, e4⟩, ⟨n5, b5, e5⟩, ⟨n6, b6, e6⟩, ⟨n7, b7, e7⟩, ⟨n9, b9, e9⟩⟩ := hR.k
  refine x_iload_n dX11_pay_0 rfl ?_
  refine x_iconst (v := (-1)) dX11_pay_1 (by decide) ?_
  refine x_iconst (v := 3) dX11_pay_2 (by decide) ?_
  refine x_callS (k2 := 0) (n2 := 0) dX11_pay_3 LS_M_65 r_in rfl rfl (Nat.le_of_ble_eq_true rfl) (Nat.le_of_ble_eq_true rfl) (Nat.le_of_ble_eq_true rfl) (Nat.le_of_ble_eq_true rfl) ?_
  rintro _ _ ⟨rfl, rfl⟩
  refine x_if_ne (tgt := 11) dX11_pay_6 rfl (fun c6 => ?_) (fun c6 => ?_)
  · refine x_iload_n dX11_pay_11 rfl ?_
    refine x_iconst (v := 0) dX11_pay_12 (by decide) ?_
    refine x_bipush (v := 99) dX11_pay_13 (by decide) ?_
    refine x_callS (k2 := 0) (n2 := 0) dX11_pay_15 LS_M_65 r_in rfl rfl (Nat.le_of_ble_eq_true rfl) (Nat.le_of_ble_eq_true rfl) (Nat.le_of_ble_eq_true rfl) (Nat.le_of_ble_eq_true rfl) ?_
    rintro _ _ ⟨rfl, rfl⟩
    refine x_if_ne (tgt := 24) dX11_pay_18 rfl (fun c18 => ?_) (fun c18 => ?_)
    · refine x_aload_n dX11_pay_24 rfl ?_
      refine x_iload_n dX11_pay_25 rfl ?_
      refine x_iconst (v := 0) dX11_pay_26 (by decide) ?_
      refine x_callV (k2 := 0) (n2 := 0) dX11_pay_27 LV_M_249 (r_paysNow (p := p) (back := 0) hx hR (by decide)) rfl rfl (fxo_127 hx) rfl (Nat.le_of_ble_eq_true rfl) (Nat.le_of_ble_eq_true rfl) (Nat.le_of_ble_eq_true rfl) (Nat.le_of_ble_eq_true rfl) ?_
      rintro _ _ ⟨I1, rfl, rfl, hF, hD, hWv, h24, h25, h138⟩
      have e128 : I1 128 = I 128 := hF 128 (by decide)
      refine x_aload_n dX11_pay_30 rfl ?_
      refine y_geti dX11_pay_31 F_M_236 (fxo_127 hx) rfl h24 ?_
      refine x_ldc dX11_pay_34 KI_X11_180 ?_
      refine x_icmp_eq (tgt := 49) dX11_pay_36 rfl (fun c36 => ?_) (fun c36 => ?_)
      · refine x_bipush (v := (-5)) dX11_pay_49 (by decide) ?_
        refine x_ireturn dX11_pay_51 rfl nb_int ?_
        first | exact ⟨I1, by unfold a_pay; rw [if_pos (b_t c6), if_pos (b_t c18), if_pos (Or.inl c36)], rfl, hF, hD⟩ | exact ⟨I1, by unfold a_pay; rw [if_pos (b_t c6), if_pos (b_t c18), if_pos (Or.inr (by rw [e0]; exact Int32.not_lt.mp c46))], rfl, hF, hD⟩
      · refine x_iload_n dX11_pay_39 rfl ?_
        refine x_aload_n dX11_pay_40 rfl ?_
        refine y_getr dX11_pay_41 F_M_9 (fxo_127 hx) rfl (fxp_127_1 hx) ?_
        refine x_iconst (v := 0) dX11_pay_44 (by decide) ?_
        refine y_iaload dX11_pay_45 (fxk_128 hx) (vi (j := 0) rfl (by omega) (by decide)) (rI (j := 0) rfl ((congrFun e128 _).trans e0)) ?_
        refine x_icmp_lt (tgt := 52) dX11_pay_46 rfl (fun c46 => ?_) (fun c46 => ?_)
        · refine x_iload_n dX11_pay_52 rfl ?_
          refine x_iconst (v := (-1)) dX11_pay_53 (by decide) ?_
          refine x_icmp_ne (tgt := 64) dX11_pay_54 rfl (fun c54 => ?_) (fun c54 => ?_)
          · obtain ⟨z, hz, rfl⟩ : ∃ z, z < 4 ∧ k = nI z := by
              obtain ⟨z, hz, e⟩ := i_2 (i := k) (n := 4) (by decide) (by have h9 := b_t c6; exact ⟨by have h8 := h9.1; have : ¬ k = -1 := c54; grind, Int32.lt_of_le_of_lt h9.2 (by decide)⟩)
              exact ⟨z, hz, e⟩
            refine x_aload_n dX11_pay_64 rfl ?_
            refine y_getr dX11_pay_65 F_M_43 (fxo_127 hx) rfl (fxp_127_22 hx) ?_
            refine x_iload_n dX11_pay_68 rfl ?_
            refine y_iaload dX11_pay_69 (fxk_138 hx) (vi (j := z) rfl (by omega) (by decide)) (rI (j := z) (ci rfl (by omega)) (h138 c36 z hz)) ?_
            refine x_ireturn dX11_pay_70 rfl nb_int ?_
            first | exact ⟨I1, by unfold a_pay; rw [if_pos (b_t c6), if_pos (b_t c18), if_neg (fun h => h.elim c36 (fun h => absurd (by first | exact c46 | exact Int32.not_le.mp c46) (by rw [e0] at h; exact Int32.not_lt.mpr h))), if_pos (by first | exact c54 | exact Classical.byContradiction c54)], rfl, hF, hD⟩ | exact ⟨I1, by unfold a_pay; rw [if_pos (b_t c6), if_pos (b_t c18), if_neg (fun h => h.elim c36 (fun h => absurd (by first | exact c46 | exact Int32.not_le.mp c46) (by rw [e0] at h; exact Int32.not_lt.mpr h))), if_neg c54, nI_clamp (by omega)], rfl, hF, hD⟩
          · refine x_aload_n dX11_pay_57 rfl ?_
            refine y_geti dX11_pay_58 F_M_236 (fxo_127 hx) rfl h24 ?_
            refine x_goto (tgt := 70) dX11_pay_61 rfl ?_
            refine x_ireturn dX11_pay_70 rfl nb_int ?_
            first | exact ⟨I1, by unfold a_pay; rw [if_pos (b_t c6), if_pos (b_t c18), if_neg (fun h => h.elim c36 (fun h => absurd (by first | exact c46 | exact Int32.not_le.mp c46) (by rw [e0] at h; exact Int32.not_lt.mpr h))), if_pos (by first | exact c54 | exact Classical.byContradiction c54)], rfl, hF, hD⟩ | exact ⟨I1, by unfold a_pay; rw [if_pos (b_t c6), if_pos (b_t c18), if_neg (fun h => h.elim c36 (fun h => absurd (by first | exact c46 | exact Int32.not_le.mp c46) (by rw [e0] at h; exact Int32.not_lt.mpr h))), if_neg c54, nI_clamp (by omega)], rfl, hF, hD⟩
        · refine x_bipush (v := (-5)) dX11_pay_49 (by decide) ?_
          refine x_ireturn dX11_pay_51 rfl nb_int ?_
          first | exact ⟨I1, by unfold a_pay; rw [if_pos (b_t c6), if_pos (b_t c18), if_pos (Or.inl c36)], rfl, hF, hD⟩ | exact ⟨I1, by unfold a_pay; rw [if_pos (b_t c6), if_pos (b_t c18), if_pos (Or.inr (by rw [e0]; exact Int32.not_lt.mp c46))], rfl, hF, hD⟩
    · refine x_bipush (v := (-2)) dX11_pay_21 (by decide) ?_
      refine x_ireturn dX11_pay_23 rfl nb_int ?_
      exact ⟨I, by unfold a_pay; rw [if_pos (b_t c6), if_neg (b_f c18)], rfl, xFrm.rf, xFd.rf⟩
  · refine x_iconst (v := (-1)) dX11_pay_9 (by decide) ?_
    refine x_ireturn dX11_pay_10 rfl nb_int ?_
    exact ⟨I, by unfold a_pay; rw [if_neg (b_f c6)], rfl, xFrm.rf, xFd.rf⟩

theorem nI_subN {a b : Nat} (h : b ≤ a) : nI a - nI b = nI (a - b) := by
  obtain ⟨d, rfl⟩ := Nat.le.dest h
  rw [← nI_add, Nat.add_sub_cancel_left]
  generalize nI b = x
  generalize nI d = y
  grind
def bv (b : Bool) : Int32 := if b = true then 1 else 0
theorem bv_nb {b : Bool} : narrow .boolean (.int (bv b)) = .int (bv b) := nb_b
theorem bv_0 {b : Bool} (h : bv b = 0) : b = false := bi_f h
theorem bv_1 {b : Bool} (h : ¬ bv b = 0) : b = true := bi_t h
/-- NEVER: one coin of worth w more -/
def smP (w : Nat) (B : Nat → Bool) (p : Nat) : Bool := B p || (decide (w ≤ p) && B (p - w))
def smI (w : Nat) (B : Nat → Bool) : Nat → Nat → Bool
  | 0 => B
  | n + 1 => smP w (smI w B n)
def smC (wn pu : Nat → Nat) : Nat → Nat → Bool
  | 0 => fun p => p == 0
  | c + 1 => smI (wn c) (smC wn pu c) (pu c)
def fmS (B : Nat → Bool) : Nat → Nat → Int32
  | 0, _ => -5
  | m + 1, p => if B p = true then fmS B m (p + 1) else nI p
def wnN (s : Nat → Int32) (c : Nat) : Nat := (wv s c).toNatClampNeg
def a_never (s : Nat → Int32) : Int32 := fmS (smC (wnN s) (puN s) 4) 99 1

set_option maxHeartbeats 4000000 in
set_option maxRecDepth 100000 in
theorem r_looksForSums {g : xG} {nx : Nat} {sh : Nat → Nat × Nat} {P : Nat → Nat → Option Nat} {I : Nat → Nat → Int32} (hx : xFx sh P) {pu wn : Nat → Nat} (hW : ∀ c, c < 4 → I 136 c = nI (pu c) ∧ pu c ≤ 9 ∧ I 132 c = nI (wn c) ∧ wn c ≤ 2000 ∧ (pu c = 0 ∨ 1 ≤ wn c)) : xMet g Y_M_looksForSums 0 0 0 [.ref 127] (nx, sh, P, I) (fun r σ => ∃ I1 : Nat → Nat → Int32, r = none ∧ σ = (nx, sh, P, I1) ∧ xFrm [140] I I1 ∧ ∀ q, q < 100 → I1 140 q = bv (smC wn pu 4 q)) := by
  refine xMet.of [some (.ref 127), none, none, none] (by decide +kernel) (Nat.le_of_ble_eq_true rfl) rfl ?_
  refine x_iconst (v := 0) dX11_looksForSums_0 (by decide) ?_
  refine x_istore_n dX11_looksForSums_1 (Nat.le_of_ble_eq_true rfl) ?_
  try simp only [xst, xst2, xclr, xset, xwide]
  have K2 : ∀ (fuel : Nat) (p : Nat) (I2 : Nat → Nat → Int32) (hp : p ≤ 100) (hF : xFrm [140] I I2) (hT : ∀ q, q < p → I2 140 q = bv (q == 0)), 100 - p < fuel → xX g Y_M_looksForSums 0 0 0 (fun r σ => ∃ I1 : Nat → Nat → Int32, r = none ∧ σ = (nx, sh, P, I1) ∧ xFrm [140] I I1 ∧ ∀ q, q < 100 → I1 140 q = bv (smC wn pu 4 q)) 2 [some (.ref 127), some (.int (nI p)), none, none] [] (nx, sh, P, I2) := by
    intro fuel
    induction fuel with
    | zero => intro p I2 hp hF hT hm; exact absurd hm (Nat.not_lt_zero _)
    | succ fuel ih2 =>
      intro p I2 hp hF hT hm
      refine x_iload_n dX11_looksForSums_2 rfl ?_
      refine x_bipush (v := 100) dX11_looksForSums_3 (by decide) ?_
      refine x_icmp_ge (tgt := 29) dX11_looksForSums_5 rfl (fun c5 => ?_) (fun c5 => ?_)
      · have hie : p = 100 := cge_t (by decide) hp c5
        subst hie
        refine x_iconst (v := 0) dX11_looksForSums_29 (by decide) ?_
        refine x_istore_n dX11_looksForSums_30 (Nat.le_of_ble_eq_true rfl) ?_
        try simp only [xst, xst2, xclr, xset, xwide]
        have K31 : ∀ (fuel : Nat) (c : Nat) (v2 v3 : Option Value) (I2 : Nat → Nat → Int32) (hc : c ≤ 4) (hF : xFrm [140] I I2) (hT : ∀ q, q < 100 → I2 140 q = bv (smC wn pu c q)), 4 - c < fuel → xX g Y_M_looksForSums 0 0 0 (fun r σ => ∃ I1 : Nat → Nat → Int32, r = none ∧ σ = (nx, sh, P, I1) ∧ xFrm [140] I I1 ∧ ∀ q, q < 100 → I1 140 q = bv (smC wn pu 4 q)) 31 [some (.ref 127), some (.int (nI c)), v2, v3] [] (nx, sh, P, I2) := by
          intro fuel
          induction fuel with
          | zero => intro c v2 v3 I2 hc hF hT hm; exact absurd hm (Nat.not_lt_zero _)
          | succ fuel ih31 =>
            intro c v2 v3 I2 hc hF hT hm
            refine x_iload_n dX11_looksForSums_31 rfl ?_
            refine x_iconst (v := 4) dX11_looksForSums_32 (by decide) ?_
            refine x_icmp_ge (tgt := 115) dX11_looksForSums_33 rfl (fun c33 => ?_) (fun c33 => ?_)
            · have hie : c = 4 := cge_t (by decide) hc c33
              subst hie
              refine x_return dX11_looksForSums_115 rfl ?_
              exact ⟨I2, rfl, rfl, hF, hT⟩
            · have him : c < 4 := cge_f (by decide) hc c33
              obtain ⟨hpc, hp9, hwc, hw2, hpw⟩ := hW c him
              refine x_iconst (v := 0) dX11_looksForSums_36 (by decide) ?_
              refine x_istore_n dX11_looksForSums_37 (Nat.le_of_ble_eq_true rfl) ?_
              try simp only [xst, xst2, xclr, xset, xwide]
              have K38 : ∀ (fuel : Nat) (n : Nat) (v3 : Option Value) (I3 : Nat → Nat → Int32) (hn : n ≤ pu c) (hF3 : xFrm [140] I I3) (hT3 : ∀ q, q < 100 → I3 140 q = bv ((smI (wn c) (smC wn pu c) n) q)), pu c - n < fuel → xX g Y_M_looksForSums 0 0 0 (fun r σ => ∃ I1 : Nat → Nat → Int32, r = none ∧ σ = (nx, sh, P, I1) ∧ xFrm [140] I I1 ∧ ∀ q, q < 100 → I1 140 q = bv (smC wn pu 4 q)) 38 [some (.ref 127), some (.int (nI c)), some (.int (nI n)), v3] [] (nx, sh, P, I3) := by
                intro fuel
                induction fuel with
                | zero => intro n v3 I3 hn hF3 hT3 hm; exact absurd hm (Nat.not_lt_zero _)
                | succ fuel ih38 =>
                  intro n v3 I3 hn hF3 hT3 hm
                  refine x_iload_n dX11_looksForSums_38 rfl ?_
                  refine x_aload_n dX11_looksForSums_39 rfl ?_
                  refine y_getr dX11_looksForSums_40 F_M_37 (fxo_127 hx) rfl (fxp_127_20 hx) ?_
                  refine x_iload_n dX11_looksForSums_43 rfl ?_
                  refine y_iaload dX11_looksForSums_44 (fxk_136 hx) (vi (j := c) rfl (by omega) (by decide)) (rI (j := c) (ci rfl (by omega)) ((congrFun (hF3 136 (by decide)) _).trans hpc)) ?_
                  refine x_icmp_ge (tgt := 109) dX11_looksForSums_45 rfl (fun c45 => ?_) (fun c45 => ?_)
                  · have hn : n = pu c := cge_t (by omega) hn c45
                    refine x_iinc (v := (nI (c + 1))) dX11_looksForSums_109 rfl (nI_1 _) (Nat.le_of_ble_eq_true rfl) ?_
                    try simp only [xst, xst2, xclr, xset, xwide]
                    refine x_goto (tgt := 31) dX11_looksForSums_112 rfl ?_
                    exact ih31 (c + 1) _ _ I3 (by omega) hF3 (fun q hq => by rw [hT3 q hq, hn]; rfl) (by omega)
                  · have hnl : n < pu c := cge_f (by omega) hn c45
                    have hw1 : 1 ≤ wn c := by omega
                    refine x_bipush (v := 99) dX11_looksForSums_48 (by decide) ?_
                    refine x_istore_n dX11_looksForSums_50 (Nat.le_of_ble_eq_true rfl) ?_
                    try simp only [xst, xst2, xclr, xset, xwide]
                    have K51 : ∀ (fuel : Nat) (p : Nat) (I4 : Nat → Nat → Int32) (hp : p ≤ 99) (hF4 : xFrm [140] I I4) (hT4 : ∀ q, q < 100 → I4 140 q = bv (if p < q then smP (wn c) (smI (wn c) (smC wn pu c) n) q else (smI (wn c) (smC wn pu c) n) q)), p < fuel → xX g Y_M_looksForSums 0 0 0 (fun r σ => ∃ I1 : Nat → Nat → Int32, r = none ∧ σ = (nx, sh, P, I1) ∧ xFrm [140] I I1 ∧ ∀ q, q < 100 → I1 140 q = bv (smC wn pu 4 q)) 51 [some (.ref 127), some (.int (nI c)), some (.int (nI n)), some (.int (nI p))] [] (nx, sh, P, I4) := by
                      intro fuel
                      induction fuel with
                      | zero => intro p I4 hp hF4 hT4 hm; exact absurd hm (Nat.not_lt_zero _)
                      | succ fuel ih51 =>
                        intro p I4 hp hF4 hT4 hm
                        refine x_iload_n dX11_looksForSums_51 rfl ?_
                        refine x_aload_n dX11_looksForSums_52 rfl ?_
                        refine y_getr dX11_looksForSums_53 F_M_25 (fxo_127 hx) rfl (fxp_127_11 hx) ?_
                        refine x_iload_n dX11_looksForSums_56 rfl ?_
                        refine y_iaload dX11_looksForSums_57 (fxk_132 hx) (vi (j := c) rfl (by omega) (by decide)) (rI (j := c) (ci rfl (by omega)) ((congrFun (hF4 132 (by decide)) _).trans hwc)) ?_
                        refine x_icmp_lt (tgt := 103) dX11_looksForSums_58 rfl (fun c58 => ?_) (fun c58 => ?_)
                        · have hpw2 : p < wn c := (nI_ltI (by omega) (by omega)).mp c58
                          refine x_iinc (v := (nI (n + 1))) dX11_looksForSums_103 rfl (nI_1 _) (Nat.le_of_ble_eq_true rfl) ?_
                          try simp only [xst, xst2, xclr, xset, xwide]
                          refine x_goto (tgt := 38) dX11_looksForSums_106 rfl ?_
                          exact ih38 (n + 1) _ I4 (by omega) hF4 (fun q hq => by
                            rw [hT4 q hq]
                            by_cases h : p < q
                            · rw [if_pos h]; rfl
                            · rw [if_neg h]
                              show _ = bv (smP (wn c) (smI (wn c) (smC wn pu c) n) q)
                              unfold smP
                              rw [decide_eq_false (by omega), Bool.false_and, Bool.or_false]) (by omega)
                        · have hpw2 : wn c ≤ p := Nat.le_of_not_lt (fun h => c58 ((nI_ltI (by omega) (by omega)).mpr h))
                          have hsp : smP (wn c) (smI (wn c) (smC wn pu c) n) p = ((smI (wn c) (smC wn pu c) n) p || (smI (wn c) (smC wn pu c) n) (p - wn c)) := by unfold smP; rw [decide_eq_true hpw2, Bool.true_and]
                          have hv1 : I4 140 p = bv ((smI (wn c) (smC wn pu c) n) p) := by rw [hT4 p (by omega), if_neg (by omega)]
                          have hv2 : I4 140 (p - wn c) = bv ((smI (wn c) (smC wn pu c) n) (p - wn c)) := by rw [hT4 _ (by omega), if_neg (by omega)]
                          have J96 : ∀ (x : Int32) (hxv : x = bv (smP (wn c) (smI (wn c) (smC wn pu c) n) p)), xX g Y_M_looksForSums 0 0 0 (fun r σ => ∃ I1 : Nat → Nat → Int32, r = none ∧ σ = (nx, sh, P, I1) ∧ xFrm [140] I I1 ∧ ∀ q, q < 100 → I1 140 q = bv (smC wn pu 4 q)) 96 [some (.ref 127), some (.int (nI c)), some (.int (nI n)), some (.int (nI p))] [.int x, .int (nI p), .ref 140] (nx, sh, P, I4) := by
                            intro x hxv
                            rw [hxv]
                            refine y_zastore dX11_looksForSums_96 (fxk_140 hx) (vi (j := p) rfl (by omega) (by decide)) bv_nb (ci (j := p) rfl (by omega)) ?_
                            refine x_iinc (v := (nI (p - 1))) dX11_looksForSums_97 rfl (i_m1.trans (by rw [show p = (p - 1) + 1 by omega]; exact nI_pred _)) (Nat.le_of_ble_eq_true rfl) ?_
                            try simp only [xst, xst2, xclr, xset, xwide]
                            refine x_goto (tgt := 51) dX11_looksForSums_100 rfl ?_
                            exact ih51 (p - 1) _ (by omega) (xFrs hF4) (fun q hq => by
                              rw [xup_at]
                              by_cases h : q = p
                              · rw [if_pos ⟨rfl, h⟩, h, if_pos (by omega)]
                              · rw [if_neg (fun z => h z.2), hT4 q hq]
                                by_cases h2 : p < q
                                · rw [if_pos h2, if_pos (by omega)]
                                · rw [if_neg h2, if_neg (by omega)]) (by omega)
                          refine x_aload_n dX11_looksForSums_61 rfl ?_
                          refine y_getr dX11_looksForSums_62 F_M_49 (fxo_127 hx) rfl (fxp_127_26 hx) ?_
                          refine x_iload_n dX11_looksForSums_65 rfl ?_
                          refine x_aload_n dX11_looksForSums_66 rfl ?_
                          refine y_getr dX11_looksForSums_67 F_M_49 (fxo_127 hx) rfl (fxp_127_26 hx) ?_
                          refine x_iload_n dX11_looksForSums_70 rfl ?_
                          refine y_zaload dX11_looksForSums_71 (fxk_140 hx) (vi (j := p) rfl (by omega) (by decide)) (rI (j := p) (ci rfl (by omega)) hv1) ?_
                          refine x_if_ne (tgt := 91) dX11_looksForSums_72 rfl (fun c72 => ?_) (fun c72 => ?_)
                          · refine x_iconst (v := 1) dX11_looksForSums_91 (by decide) ?_
                            refine x_goto (tgt := 96) dX11_looksForSums_92 rfl ?_
                            first | exact J96 _ (by rw [hsp, bv_0 c72, bv_0 c88]; rfl) | exact J96 _ (by rw [hsp, bv_1 c72]; rfl) | exact J96 _ (by rw [hsp, bv_1 c88, Bool.or_true]; rfl)
                          · refine x_aload_n dX11_looksForSums_75 rfl ?_
                            refine y_getr dX11_looksForSums_76 F_M_49 (fxo_127 hx) rfl (fxp_127_26 hx) ?_
                            refine x_iload_n dX11_looksForSums_79 rfl ?_
                            refine x_aload_n dX11_looksForSums_80 rfl ?_
                            refine y_getr dX11_looksForSums_81 F_M_25 (fxo_127 hx) rfl (fxp_127_11 hx) ?_
                            refine x_iload_n dX11_looksForSums_84 rfl ?_
                            refine y_iaload dX11_looksForSums_85 (fxk_132 hx) (vi (j := c) rfl (by omega) (by decide)) (rI (j := c) (ci rfl (by omega)) ((congrFun (hF4 132 (by decide)) _).trans hwc)) ?_
                            refine x_isub dX11_looksForSums_86 ?_
                            rw [nI_subN hpw2]
                            refine y_zaload dX11_looksForSums_87 (fxk_140 hx) (vi (j := (p - wn c)) rfl (by omega) (by decide)) (rI (j := (p - wn c)) (ci rfl (by omega)) hv2) ?_
                            refine x_if_eq (tgt := 95) dX11_looksForSums_88 rfl (fun c88 => ?_) (fun c88 => ?_)
                            · refine x_iconst (v := 0) dX11_looksForSums_95 (by decide) ?_
                              first | exact J96 _ (by rw [hsp, bv_0 c72, bv_0 c88]; rfl) | exact J96 _ (by rw [hsp, bv_1 c72]; rfl) | exact J96 _ (by rw [hsp, bv_1 c88, Bool.or_true]; rfl)
                            · refine x_iconst (v := 1) dX11_looksForSums_91 (by decide) ?_
                              refine x_goto (tgt := 96) dX11_looksForSums_92 rfl ?_
                              first | exact J96 _ (by rw [hsp, bv_0 c72, bv_0 c88]; rfl) | exact J96 _ (by rw [hsp, bv_1 c72]; rfl) | exact J96 _ (by rw [hsp, bv_1 c88, Bool.or_true]; rfl)
                    exact K51 _ 99 I3 (by decide) hF3 (fun q hq => by rw [if_neg (by omega)]; exact hT3 q hq) (Nat.lt_succ_self _)
              exact K38 _ 0 _ I2 (Nat.zero_le _) hF hT (Nat.lt_succ_self _)
        exact K31 _ 0 none none I2 (by decide) hF hT (Nat.lt_succ_self _)
      · have him : p < 100 := cge_f (by decide) hp c5
        have J22 : ∀ (x : Int32) (hxv : x = bv (p == 0)), xX g Y_M_looksForSums 0 0 0 (fun r σ => ∃ I1 : Nat → Nat → Int32, r = none ∧ σ = (nx, sh, P, I1) ∧ xFrm [140] I I1 ∧ ∀ q, q < 100 → I1 140 q = bv (smC wn pu 4 q)) 22 [some (.ref 127), some (.int (nI p)), none, none] [.int x, .int (nI p), .ref 140] (nx, sh, P, I2) := by
          intro x hxv
          rw [hxv]
          refine y_zastore dX11_looksForSums_22 (fxk_140 hx) (vi (j := p) rfl (by omega) (by decide)) bv_nb (ci (j := p) rfl (by omega)) ?_
          refine x_iinc (v := (nI (p + 1))) dX11_looksForSums_23 rfl (nI_1 _) (Nat.le_of_ble_eq_true rfl) ?_
          try simp only [xst, xst2, xclr, xset, xwide]
          refine x_goto (tgt := 2) dX11_looksForSums_26 rfl ?_
          exact ih2 (p + 1) _ (by omega) (xFrs hF) (fun q hq => by
            rw [xup_at]
            by_cases h : q = p
            · rw [if_pos ⟨rfl, h⟩, h]
            · rw [if_neg (fun z => h z.2)]; exact hT q (by omega)) (by omega)
        refine x_aload_n dX11_looksForSums_8 rfl ?_
        refine y_getr dX11_looksForSums_9 F_M_49 (fxo_127 hx) rfl (fxp_127_26 hx) ?_
        refine x_iload_n dX11_looksForSums_12 rfl ?_
        refine x_iload_n dX11_looksForSums_13 rfl ?_
        refine x_if_ne (tgt := 21) dX11_looksForSums_14 rfl (fun c14 => ?_) (fun c14 => ?_)
        · refine x_iconst (v := 0) dX11_looksForSums_21 (by decide) ?_
          first | exact J22 _ (by rw [show p = 0 from (nI_le0 (by omega)).mp (by rw [c14]; decide)]; rfl) | exact J22 _ (by unfold bv; rw [if_neg (fun z => c14 (by rw [beq_iff_eq.mp z]; rfl))])
        · refine x_iconst (v := 1) dX11_looksForSums_17 (by decide) ?_
          refine x_goto (tgt := 22) dX11_looksForSums_18 rfl ?_
          first | exact J22 _ (by rw [show p = 0 from (nI_le0 (by omega)).mp (by rw [c14]; decide)]; rfl) | exact J22 _ (by unfold bv; rw [if_neg (fun z => c14 (by rw [beq_iff_eq.mp z]; rfl))])
  exact K2 _ 0 I (by decide) xFrm.rf (fun q h => absurd h (Nat.not_lt_zero q)) (Nat.lt_succ_self _)

set_option maxHeartbeats 4000000 in
set_option maxRecDepth 100000 in
theorem r_firstMissing {g : xG} {nx : Nat} {sh : Nat → Nat × Nat} {P : Nat → Nat → Option Nat} {I : Nat → Nat → Int32} (hx : xFx sh P) {B : Nat → Bool} (hT : ∀ q, q < 100 → I 140 q = bv (B q)) : xMet g Y_M_firstMissing 0 0 0 [.ref 127] (nx, sh, P, I) (fun r σ => r = some (.int (fmS B 99 1)) ∧ σ = (nx, sh, P, I)) := by
  refine xMet.of [some (.ref 127), none] (by decide +kernel) (Nat.le_of_ble_eq_true rfl) rfl ?_
  refine x_iconst (v := 1) dX11_firstMissing_0 (by decide) ?_
  refine x_istore_n dX11_firstMissing_1 (Nat.le_of_ble_eq_true rfl) ?_
  try simp only [xst, xst2, xclr, xset, xwide]
  have K2 : ∀ (fuel : Nat) (p : Nat) (hp1 : 1 ≤ p) (hp : p ≤ 100) (ha : fmS B (100 - p) p = fmS B 99 1), 100 - p < fuel → xX g Y_M_firstMissing 0 0 0 (fun r σ => r = some (.int (fmS B 99 1)) ∧ σ = (nx, sh, P, I)) 2 [some (.ref 127), some (.int (nI p))] [] (nx, sh, P, I) := by
    intro fuel
    induction fuel with
    | zero => intro p hp1 hp ha hm; exact absurd hm (Nat.not_lt_zero _)
    | succ fuel ih2 =>
      intro p hp1 hp ha hm
      refine x_iload_n dX11_firstMissing_2 rfl ?_
      refine x_bipush (v := 100) dX11_firstMissing_3 (by decide) ?_
      refine x_icmp_ge (tgt := 25) dX11_firstMissing_5 rfl (fun c5 => ?_) (fun c5 => ?_)
      · have hie : p = 100 := cge_t (by decide) hp c5
        subst hie
        refine x_bipush (v := (-5)) dX11_firstMissing_25 (by decide) ?_
        refine x_ireturn dX11_firstMissing_27 rfl nb_int ?_
        exact ⟨by rw [← ha]; rfl, rfl⟩
      · have him : p < 100 := cge_f (by decide) hp c5
        have hun : fmS B (100 - p) p = if B p = true then fmS B (100 - (p + 1)) (p + 1) else nI p := by rw [show 100 - p = (100 - (p + 1)) + 1 by omega]; rfl
        refine x_aload_n dX11_firstMissing_8 rfl ?_
        refine y_getr dX11_firstMissing_9 F_M_49 (fxo_127 hx) rfl (fxp_127_26 hx) ?_
        refine x_iload_n dX11_firstMissing_12 rfl ?_
        refine y_zaload dX11_firstMissing_13 (fxk_140 hx) (vi (j := p) rfl (by omega) (by decide)) (rI (j := p) (ci rfl (by omega)) (hT p him)) ?_
        refine x_if_ne (tgt := 19) dX11_firstMissing_14 rfl (fun c14 => ?_) (fun c14 => ?_)
        · refine x_iinc (v := (nI (p + 1))) dX11_firstMissing_19 rfl (nI_1 _) (Nat.le_of_ble_eq_true rfl) ?_
          try simp only [xst, xst2, xclr, xset, xwide]
          refine x_goto (tgt := 2) dX11_firstMissing_22 rfl ?_
          exact ih2 (p + 1) (by omega) (by omega) (by rw [← ha, hun, if_pos (bv_1 c14)]) (by omega)
        · refine x_iload_n dX11_firstMissing_17 rfl ?_
          refine x_ireturn dX11_firstMissing_18 rfl nb_int ?_
          exact ⟨by rw [← ha, hun, if_neg (by rw [bv_0 c14]; decide)], rfl⟩
  exact K2 _ 1 (by decide) (by decide) rfl (Nat.lt_succ_self _)

theorem wv_bd {s : Nat → Int32} (h : RI s) (c : Nat) : wv s c = nI (wnN s c) ∧ wnN s c ≤ 2000 ∧ (puN s c = 0 ∨ 1 ≤ wnN s c) := by
  by_cases hc : c < cN s 0
  · obtain ⟨w, h1, h2, e⟩ := wc_bd h hc
    have e2 : wv s c = nI w := (wv_in hc).trans e
    have e3 : wnN s c = w := by unfold wnN; rw [e2, nI_clamp (by omega)]
    rw [e3]
    exact ⟨e2, h2, Or.inr h1⟩
  · have e2 : wv s c = nI 0 := if_neg hc
    have e3 : wnN s c = 0 := by unfold wnN; rw [e2, nI_clamp (by omega)]
    rw [e3]
    exact ⟨e2, by omega, Or.inl (if_neg hc)⟩

set_option maxHeartbeats 4000000 in
set_option maxRecDepth 100000 in
theorem r_never {g : xG} {nx : Nat} {sh : Nat → Nat × Nat} {P : Nat → Nat → Option Nat} {I : Nat → Nat → Int32} (hx : xFx sh P) (hR : RI (I 128)) : xMet g Y_M_never 5 0 0 [.ref 127] (nx, sh, P, I) (fun r σ => ∃ I1 : Nat → Nat → Int32, r = some (.int (a_never (I 128))) ∧ σ = (nx, sh, P, I1) ∧ xFrm [130, 131, 132, 136, 140] I I1) := by
  refine xMet.of [some (.ref 127)] (by decide +kernel) (Nat.le_of_ble_eq_true rfl) rfl ?_
  refine x_aload_n dX11_never_0 rfl ?_
  refine x_callV (k2 := 0) (n2 := 0) dX11_never_1 LV_M_165 (r_looksForWorths hx hR) rfl rfl (fxo_127 hx) rfl (Nat.le_of_ble_eq_true rfl) (Nat.le_of_ble_eq_true rfl) (Nat.le_of_ble_eq_true rfl) (Nat.le_of_ble_eq_true rfl) ?_
  rintro _ _ ⟨I1, rfl, rfl, hF, hW⟩
  have e128 : I1 128 = I 128 := hF 128 (by decide)
  refine x_aload_n dX11_never_4 rfl ?_
  refine x_callV (k2 := 0) (n2 := 0) dX11_never_5 LV_M_243 (r_pursed (I := I1) hx (by rw [e128]; exact hR)) rfl rfl (fxo_127 hx) rfl (Nat.le_of_ble_eq_true rfl) (Nat.le_of_ble_eq_true rfl) (Nat.le_of_ble_eq_true rfl) (Nat.le_of_ble_eq_true rfl) ?_
  rintro _ _ ⟨I2, rfl, rfl, hF2, hP2⟩
  have f128 : I2 128 = I 128 := (hF2 128 (by decide)).trans e128
  rw [e128] at hP2
  refine x_aload_n dX11_never_8 rfl ?_
  refine x_callV (k2 := 0) (n2 := 0) dX11_never_9 LV_M_252 (r_looksForSums (I := I2) (pu := puN (I 128)) (wn := wnN (I 128)) hx (fun c hc => ⟨hP2 c hc, puN_bd hR c, ((congrFun (hF2 132 (by decide)) c).trans (hW c hc)).trans (wv_bd hR c).1, (wv_bd hR c).2.1, (wv_bd hR c).2.2⟩)) rfl rfl (fxo_127 hx) rfl (Nat.le_of_ble_eq_true rfl) (Nat.le_of_ble_eq_true rfl) (Nat.le_of_ble_eq_true rfl) (Nat.le_of_ble_eq_true rfl) ?_
  rintro _ _ ⟨I3, rfl, rfl, hF3, hT3⟩
  refine x_aload_n dX11_never_12 rfl ?_
  refine x_callV (k2 := 0) (n2 := 0) dX11_never_13 LV_M_255 (r_firstMissing hx hT3) rfl rfl (fxo_127 hx) rfl (Nat.le_of_ble_eq_true rfl) (Nat.le_of_ble_eq_true rfl) (Nat.le_of_ble_eq_true rfl) (Nat.le_of_ble_eq_true rfl) ?_
  rintro _ _ ⟨rfl, rfl⟩
  refine x_ireturn dX11_never_16 rfl nb_int ?_
  exact ⟨I3, rfl, rfl, (hF.tr (l := [130, 131, 132, 136, 140]) hF2).tr hF3⟩
