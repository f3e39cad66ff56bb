/-! the reference: made -/
/-- another purse -/
theorem RI.pu {s t : Nat → Int32} (h : RI s) (hA : ∀ j, ¬ (22 ≤ j ∧ j < 26) → t j = s j) (hp : ∀ c, c < cN s 0 → ∃ p, p ≤ 9 ∧ t (22 + c) = nI p) : RI t := by
  have hc : ∀ i, i < 10 → t i = s i := fun i hi => hA i (by omega)
  have hN : ∀ i, i < 10 → cN t i = cN s i := fun i hi => congrArg Int32.toNatClampNeg (hc i hi)
  have h04 := h.c0.2
  refine ⟨fun i hi => by rw [hc i (by omega), hN i (by omega)]; exact h.1 i hi, ?_, ?_, ?_, ?_, ?_⟩
  · rw [hN 0 (by omega), hN 1 (by omega), hN 2 (by omega), hN 3 (by omega), hN 4 (by omega), hN 5 (by omega), hN 6 (by omega), hN 7 (by omega)]; exact h.2.1
  · rw [hc 9 (by omega)]; exact h.2.2.1
  · intro c hcc
    rw [hN 0 (by omega)] at hcc
    obtain ⟨a1, a2, a3, -, a5⟩ := h.2.2.2.1 c hcc
    refine ⟨by rw [hA _ (by omega)]; exact a1, by rw [hA _ (by omega)]; exact a2, by rw [hA _ (by omega)]; exact a3, hp c hcc, fun k hk => by rw [hA _ (by omega)]; exact a5 k hk⟩
  · obtain ⟨b1, b2⟩ := h.2.2.2.2.1
    refine ⟨fun a ha => ?_, by rw [hc 8 (by omega), hN 2 (by omega)]; exact b2⟩
    rw [hN 2 (by omega)] at ha
    have := b1 a ha
    have e : (fun i => t (232 + 140 * a + i)) = fun i => s (232 + 140 * a + i) := funext fun i => hA _ (by omega)
    rw [hA (217 + a) (by omega), hA (222 + a) (by omega), hA (227 + a) (by omega), e]
    exact this
  · obtain ⟨c1, c2, c3, c4, c5, c6⟩ := h.2.2.2.2.2
    refine ⟨fun i hi => ?_, fun i hi => ?_, fun i hi => ?_, fun i hi => ?_, fun i hi => ?_, fun i hi => ?_⟩
    · rw [hN 1 (by omega)] at hi; rw [hA _ (by omega)]; exact c1 i hi
    · rw [hN 3 (by omega)] at hi; rw [hA (47 + i) (by omega)]; exact ⟨(c2 i hi).1, fun k hk => by rw [hA _ (by omega)]; exact (c2 i hi).2 k hk⟩
    · rw [hN 4 (by omega)] at hi; rw [hA (77 + i) (by omega), hA (83 + i) (by omega), hA (89 + i) (by omega)]; exact c3 i hi
    · rw [hN 5 (by omega)] at hi; rw [hA _ (by omega)]; exact c4 i hi
    · rw [hN 6 (by omega)] at hi; rw [hA (101 + i) (by omega), hA (109 + i) (by omega), hN 0 (by omega)]; exact c5 i hi
    · rw [hN 7 (by omega)] at hi; rw [hA _ (by omega)]; exact c6 i hi
def pyW (pu : Nat → Nat) (st : PS) : Prop := ¬ st.1 = 1000000 → ∀ c, c < 4 → ∃ q, q ≤ pu c ∧ st.2.2 c = nI q
theorem pyK_W {pu : Nat → Nat} {f : Nat → PS → PS} {n : Nat} (h : ∀ k a, k < n → pyW pu a → pyW pu (f k a)) : ∀ k a, k ≤ n → pyW pu a → pyW pu (pyK f k a)
  | 0, _, _, e => e
  | k + 1, a, hk, e => h k _ (by omega) (pyK_W h k a (by omega) e)
/-- rows of paying lie within the purse -/
theorem pyL_W {w : Nat → Int32} {bk pu : Nat → Nat} (hb : ∀ c, bk c = 0) : ∀ m c left coins rows st, c + m = 4 → (∀ j, j < c → ∃ q, q ≤ pu j ∧ rows j = nI q) → pyW pu st → pyW pu (pyL w bk pu m c left coins rows st)
  | 0, c, left, coins, rows, st, hc, hr, e => by
    unfold pyL
    by_cases h1 : left = 0
    · rw [if_pos h1]
      by_cases h2 : coins < st.1
      · rw [if_pos h2]; exact fun _ j hj => hr j (by omega)
      · rw [if_neg h2]; exact e
    · rw [if_neg h1]; exact e
  | m + 1, c, left, coins, rows, st, hc, hr, e => by
    rw [pyL_s]
    refine pyK_W (n := bk c + pu c + 1) ?_ _ _ (Nat.le_refl _) e
    intro k a hk ea
    rw [hb c] at hk
    refine pyL_W hb m (c + 1) _ _ _ _ (by omega) ?_ ea
    intro j hj
    unfold upd
    by_cases h : j = c
    · rw [if_pos h, hb c, nI_subN (Nat.zero_le _)]
      exact ⟨k - 0, by rw [h]; omega, rfl⟩
    · rw [if_neg h]; exact hr j (by omega)
theorem pyA_W {s : Nat → Int32} {p : Int32} : pyW (puN s) (pyA s p 0) := pyL_W (fun c => by unfold bkN; by_cases h : c < cN s 0; rw [if_pos h]; rw [if_neg h]) 4 0 _ _ _ _ rfl (fun j h => absurd h (Nat.not_lt_zero _)) (fun h => absurd rfl h)
/-- the purse behind paying -/
def mdU (t : Nat → Int32) (st : PS) : Nat → Int32 := fun j => if 22 ≤ j ∧ j < 22 + cN t 0 then t j - st.2.2 (j - 22) else t j
def mdS (s : Nat → Int32) : Nat → (Nat → Int32) × Int32 × Bool
  | 0 => (s, 0, true)
  | k + 1 => if (mdS s k).2.2 = true then (if (pyA (mdS s k).1 (s (95 + k)) 0).1 < 1000000 then (mdU (mdS s k).1 (pyA (mdS s k).1 (s (95 + k)) 0), (mdS s k).2.1 + 1, true) else ((mdS s k).1, (mdS s k).2.1, false)) else mdS s k
theorem mdS_stop {s : Nat → Int32} {k : Nat} (h : (mdS s k).2.2 = false) : ∀ d, mdS s (k + d) = mdS s k
  | 0 => rfl
  | d + 1 => by
    have ih := mdS_stop h d
    show (if (mdS s (k + d)).2.2 = true then _ else mdS s (k + d)) = _
    rw [if_neg (by rw [ih, h]; decide), ih]
def a_made (s : Nat → Int32) (w : Int32) : Int32 := if 0 ≤ w ∧ w ≤ 1 then (if w = 0 then (mdS s (cN s 5)).2.1 else rcS (mdS s (cN s 5)).1 (cN (mdS s (cN s 5)).1 0)) else -1
theorem mdU_RI {t : Nat → Int32} {p : Int32} (h : RI t) (hlt : (pyA t p 0).1 < 1000000) : RI (mdU t (pyA t p 0)) := by
  refine h.pu (fun j hj => if_neg (fun z => hj ⟨z.1, by have := h.c0.2; omega⟩)) ?_
  intro c hc
  have h4 := h.c0.2
  obtain ⟨q, hq, e⟩ := pyA_W (s := t) (p := p) (fun z => by rw [z] at hlt; exact absurd hlt (by decide)) c (by omega)
  obtain ⟨x, hx9, e2⟩ := pu_of h hc
  have e3 : puN t c = x := by unfold puN; rw [if_pos hc, e2, nI_clamp (by omega)]
  rw [e3] at hq
  refine ⟨x - q, by omega, ?_⟩
  show (if 22 ≤ 22 + c ∧ 22 + c < 22 + cN t 0 then t (22 + c) - (pyA t p 0).2.2 (22 + c - 22) else _) = _
  rw [if_pos ⟨by omega, by omega⟩, show 22 + c - 22 = c by omega, e, e2, nI_subN hq]

set_option maxHeartbeats 4000000 in
set_option maxRecDepth 100000 in
theorem r_made {g : xG} {nx : Nat} {sh : Nat → Nat × Nat} {P : Nat → Nat → Option Nat} {I : Nat → Nat → Int32} (hx : xFx sh P) {w : Int32} (hR : RI (I 128)) : xMet g Y_M_made 7 0 0 [.ref 127, .int w] (nx, sh, P, I) (fun r σ => ∃ I1 : Nat → Nat → Int32, r = some (.int (a_made (I 128) w)) ∧ σ = (nx, sh, P, I1) ∧ I1 128 = I 128 ∧ xFrm [127, 128, 130, 131, 132, 136, 137, 138, 139] I I1 ∧ xFd [24, 25] I I1) := by
  refine xMet.of [some (.ref 127), some (.int w), none, none, none, none] (by decide +kernel) (Nat.le_of_ble_eq_true rfl) rfl ?_
  obtain ⟨⟨n0, b0, e0⟩, ⟨n1, b1, e1⟩, ⟨n2, b2, e2⟩, ⟨n3, b3, e3⟩, ⟨n4, b4, e4⟩, ⟨n5, b5, e5⟩, ⟨n6, b6, e6⟩, ⟨n7, b7, e7⟩, ⟨n9, b9, e9⟩⟩ := hR.k
  refine x_iload_n dX11_made_0 rfl ?_
  refine x_iconst (v := 0) dX11_made_1 (by decide) ?_
  refine x_iconst (v := 1) dX11_made_2 (by decide) ?_
  refine x_callS (k2 := 0) (n2 := 0) dX11_made_3 LS_M_65 r_in rfl rfl (Nat.le_of_ble_eq_true rfl) (Nat.le_of_ble_eq_true rfl) (Nat.le_of_ble_eq_true rfl) (Nat.le_of_ble_eq_true rfl) ?_
  rintro _ _ ⟨rfl, rfl⟩
  refine x_if_ne (tgt := 11) dX11_made_6 rfl (fun c6 => ?_) (fun c6 => ?_)
  · refine x_iconst (v := 0) dX11_made_11 (by decide) ?_
    refine x_istore_n dX11_made_12 (Nat.le_of_ble_eq_true rfl) ?_
    try simp only [xst, xst2, xclr, xset, xwide]
    have K13 : ∀ (fuel : Nat) (c : Nat) (I2 : Nat → Nat → Int32) (hc : c ≤ 4) (hF : xFrm [139] I I2) (hK : ∀ j, j < c → I2 139 j = I 128 (22 + j)), 4 - c < fuel → xX g Y_M_made 7 0 0 (fun r σ => ∃ I1 : Nat → Nat → Int32, r = some (.int (a_made (I 128) w)) ∧ σ = (nx, sh, P, I1) ∧ I1 128 = I 128 ∧ xFrm [127, 128, 130, 131, 132, 136, 137, 138, 139] I I1 ∧ xFd [24, 25] I I1) 13 [some (.ref 127), some (.int w), some (.int (nI c)), none, none, none] [] (nx, sh, P, I2) := by
      intro fuel
      induction fuel with
      | zero => intro c I2 hc hF hK hm; exact absurd hm (Nat.not_lt_zero _)
      | succ fuel ih13 =>
        intro c I2 hc hF hK hm
        refine x_iload_n dX11_made_13 rfl ?_
        refine x_iconst (v := 4) dX11_made_14 (by decide) ?_
        refine x_icmp_ge (tgt := 39) dX11_made_15 rfl (fun c15 => ?_) (fun c15 => ?_)
        · have hie : c = 4 := cge_t (by decide) hc c15
          subst hie
          
          refine x_iconst (v := 0) dX11_made_39 (by decide) ?_
          refine x_istore_n dX11_made_40 (Nat.le_of_ble_eq_true rfl) ?_
          try simp only [xst, xst2, xclr, xset, xwide]
          refine x_iconst (v := 1) dX11_made_41 (by decide) ?_
          refine x_istore_n dX11_made_42 (Nat.le_of_ble_eq_true rfl) ?_
          try simp only [xst, xst2, xclr, xset, xwide]
          refine x_iconst (v := 0) dX11_made_43 (by decide) ?_
          refine x_istore dX11_made_44 (Nat.le_of_ble_eq_true rfl) ?_
          try simp only [xst, xst2, xclr, xset, xwide]
          have K46 : ∀ (fuel : Nat) (k : Nat) (n : Int32) (gb : Bool) (t : Nat → Int32) (v5 : Option Value) (I3 : Nat → Nat → Int32) (hk : k ≤ n5) (hM : mdS (I 128) k = (t, n, gb)) (hRt : RI t) (hA : ∀ j, ¬ (22 ≤ j ∧ j < 26) → t j = I 128 j) (h3 : I3 128 = t) (hF : xFrm [127, 128, 130, 131, 132, 136, 137, 138, 139] I I3) (hD : xFd [24, 25] I I3) (hK : ∀ c, c < 4 → I3 139 c = I 128 (22 + c)), n5 - k < fuel → xX g Y_M_made 7 0 0 (fun r σ => ∃ I1 : Nat → Nat → Int32, r = some (.int (a_made (I 128) w)) ∧ σ = (nx, sh, P, I1) ∧ I1 128 = I 128 ∧ xFrm [127, 128, 130, 131, 132, 136, 137, 138, 139] I I1 ∧ xFd [24, 25] I I1) 46 [some (.ref 127), some (.int w), some (.int n), some (.int (bv gb)), some (.int (nI k)), v5] [] (nx, sh, P, I3) := by
            intro fuel
            induction fuel with
            | zero => intro k n gb t v5 I3 hk hM hRt hA h3 hF hD hK hm; exact absurd hm (Nat.not_lt_zero _)
            | succ fuel ih46 =>
              intro k n gb t v5 I3 hk hM hRt hA h3 hF hD hK hm
              refine x_iload dX11_made_46 rfl ?_
              refine x_aload_n dX11_made_48 rfl ?_
              refine y_getr dX11_made_49 F_M_9 (fxo_127 hx) rfl (fxp_127_1 hx) ?_
              refine x_iconst (v := 5) dX11_made_52 (by decide) ?_
              refine y_iaload dX11_made_53 (fxk_128 hx) (vi (j := 5) rfl (by omega) (by decide)) (rI (j := 5) rfl ((congrFun h3 5).trans ((hA 5 (by omega)).trans e5))) ?_
              refine x_icmp_ge (tgt := 153) dX11_made_54 rfl (fun c54 => ?_) (fun c54 => ?_)
              · have hie : k = n5 := cge_t (by omega) hk c54
                have hfin : mdS (I 128) n5 = (t, n, gb) := by rw [← hie]; exact hM
                refine x_aload_n dX11_made_153 rfl ?_
                refine x_callV (k2 := 0) (n2 := 0) dX11_made_154 LV_M_174 (r_rich (I := I3) hx (by rw [h3]; exact hRt)) rfl rfl (fxo_127 hx) rfl (Nat.le_of_ble_eq_true rfl) (Nat.le_of_ble_eq_true rfl) (Nat.le_of_ble_eq_true rfl) (Nat.le_of_ble_eq_true rfl) ?_
                rintro _ _ ⟨I6, rfl, rfl, hF6⟩
                rw [h3]
                have h6 : I6 128 = t := (hF6 128 (by decide)).trans h3
                refine x_istore dX11_made_157 (Nat.le_of_ble_eq_true rfl) ?_
                try simp only [xst, xst2, xclr, xset, xwide]
                refine x_iconst (v := 0) dX11_made_159 (by decide) ?_
                refine x_istore dX11_made_160 (Nat.le_of_ble_eq_true rfl) ?_
                try simp only [xst, xst2, xclr, xset, xwide]
                have K162 : ∀ (fuel : Nat) (c : Nat) (I7 : Nat → Nat → Int32) (hc : c ≤ 4) (hG7 : xFrm [128] I6 I7) (h7 : ∀ j, I7 128 j = if 22 ≤ j ∧ j < 22 + c then I 128 j else t j), 4 - c < fuel → xX g Y_M_made 7 0 0 (fun r σ => ∃ I1 : Nat → Nat → Int32, r = some (.int (a_made (I 128) w)) ∧ σ = (nx, sh, P, I1) ∧ I1 128 = I 128 ∧ xFrm [127, 128, 130, 131, 132, 136, 137, 138, 139] I I1 ∧ xFd [24, 25] I I1) 162 [some (.ref 127), some (.int w), some (.int n), some (.int (bv gb)), some (.int (rcS t (cN t 0))), some (.int (nI c))] [] (nx, sh, P, I7) := by
                  intro fuel
                  induction fuel with
                  | zero => intro c I7 hc hG7 h7 hm; exact absurd hm (Nat.not_lt_zero _)
                  | succ fuel ih162 =>
                    intro c I7 hc hG7 h7 hm
                    refine x_iload dX11_made_162 rfl ?_
                    refine x_iconst (v := 4) dX11_made_164 (by decide) ?_
                    refine x_icmp_ge (tgt := 191) dX11_made_165 rfl (fun c165 => ?_) (fun c165 => ?_)
                    · have hie2 : c = 4 := cge_t (by decide) hc c165
                      subst hie2
                      refine x_iload_n dX11_made_191 rfl ?_
                      refine x_if_ne (tgt := 199) dX11_made_192 rfl (fun c192 => ?_) (fun c192 => ?_)
                      · refine x_iload dX11_made_199 rfl ?_
                        refine x_ireturn dX11_made_201 rfl nb_int ?_
                        refine ⟨I7, ?_, rfl, ?_, hF.tr (l := [127, 128, 130, 131, 132, 136, 137, 138, 139]) (l1 := [127, 128, 130, 131, 132, 136, 137, 138, 139]) ((hF6.mono (l := [127, 128, 130, 131, 132, 136, 137, 138, 139])).tr (l := [127, 128, 130, 131, 132, 136, 137, 138, 139]) (l1 := [127, 128, 130, 131, 132, 136, 137, 138, 139]) hG7), xFd.tr (l := [24, 25]) (l1 := [24, 25]) hD (xFd.tr (l := [24, 25]) (l1 := [24, 25]) (l2 := [24, 25]) (xFd.of hF6) (xFd.of hG7))⟩
                        · unfold a_made
                          rw [if_pos (b_t c6), cN_of e5 (by omega), hfin]
                          first | rw [if_pos c192] | rw [if_neg c192]
                        · funext j
                          rw [h7 j]
                          by_cases h : 22 ≤ j ∧ j < 22 + 4
                          · rw [if_pos h]
                          · rw [if_neg h]; exact hA j (by omega)
                      · refine x_iload_n dX11_made_195 rfl ?_
                        refine x_goto (tgt := 201) dX11_made_196 rfl ?_
                        refine x_ireturn dX11_made_201 rfl nb_int ?_
                        refine ⟨I7, ?_, rfl, ?_, hF.tr (l := [127, 128, 130, 131, 132, 136, 137, 138, 139]) (l1 := [127, 128, 130, 131, 132, 136, 137, 138, 139]) ((hF6.mono (l := [127, 128, 130, 131, 132, 136, 137, 138, 139])).tr (l := [127, 128, 130, 131, 132, 136, 137, 138, 139]) (l1 := [127, 128, 130, 131, 132, 136, 137, 138, 139]) hG7), xFd.tr (l := [24, 25]) (l1 := [24, 25]) hD (xFd.tr (l := [24, 25]) (l1 := [24, 25]) (l2 := [24, 25]) (xFd.of hF6) (xFd.of hG7))⟩
                        · unfold a_made
                          rw [if_pos (b_t c6), cN_of e5 (by omega), hfin]
                          first | rw [if_pos c192] | rw [if_neg c192]
                        · funext j
                          rw [h7 j]
                          by_cases h : 22 ≤ j ∧ j < 22 + 4
                          · rw [if_pos h]
                          · rw [if_neg h]; exact hA j (by omega)
                    · have him7 : c < 4 := cge_f (by decide) hc c165
                      refine x_aload_n dX11_made_168 rfl ?_
                      refine y_getr dX11_made_169 F_M_9 (fxo_127 hx) rfl (fxp_127_1 hx) ?_
                      refine x_bipush (v := 22) dX11_made_172 (by decide) ?_
                      refine x_iload dX11_made_174 rfl ?_
                      refine x_iadd dX11_made_176 ?_
                      refine x_aload_n dX11_made_177 rfl ?_
                      refine y_getr dX11_made_178 F_M_46 (fxo_127 hx) rfl (fxp_127_23 hx) ?_
                      refine x_iload dX11_made_181 rfl ?_
                      refine y_iaload dX11_made_183 (fxk_139 hx) (vi (j := c) rfl (by omega) (by decide)) (rI (j := c) (ci rfl (by omega)) ((congrFun (hG7 139 (by decide)) c).trans ((congrFun (hF6 139 (by decide)) c).trans (hK c him7)))) ?_
                      refine y_iastore dX11_made_184 (fxk_128 hx) (vi (j := (22 + c)) (nadd (a := 22) (b := c) rfl rfl) (by omega) (by decide)) (ci (j := (22 + c)) (nadd (a := 22) (b := c) rfl rfl) (by omega)) ?_
                      refine x_iinc (v := (nI (c + 1))) dX11_made_185 rfl (nI_1 _) (Nat.le_of_ble_eq_true rfl) ?_
                      try simp only [xst, xst2, xclr, xset, xwide]
                      refine x_goto (tgt := 162) dX11_made_188 rfl ?_
                      exact ih162 (c + 1) _ (by omega) (xFrs hG7) (fun j => by
                        rw [xup_at]
                        by_cases h : j = 22 + c
                        · rw [if_pos ⟨rfl, h⟩, if_pos (by omega), h]
                        · rw [if_neg (fun z => h z.2), h7 j]
                          by_cases h2 : 22 ≤ j ∧ j < 22 + c
                          · rw [if_pos h2, if_pos (by omega)]
                          · rw [if_neg h2, if_neg (by omega)]) (by omega)
                exact K162 _ 0 I6 (by decide) xFrm.rf (fun j => by rw [if_neg (by omega)]; exact congrFun h6 j) (Nat.lt_succ_self _)
              · have him : k < n5 := cge_f (by omega) hk c54
                refine x_iload_n dX11_made_57 rfl ?_
                refine x_if_eq (tgt := 153) dX11_made_58 rfl (fun c58 => ?_) (fun c58 => ?_)
                · have hfin : mdS (I 128) n5 = (t, n, gb) := by
                    have h9 := mdS_stop (s := I 128) (k := k) (by rw [hM]; exact bv_0 c58) (n5 - k)
                    rw [show k + (n5 - k) = n5 by omega] at h9
                    rw [h9]; exact hM
                  refine x_aload_n dX11_made_153 rfl ?_
                  refine x_callV (k2 := 0) (n2 := 0) dX11_made_154 LV_M_174 (r_rich (I := I3) hx (by rw [h3]; exact hRt)) rfl rfl (fxo_127 hx) rfl (Nat.le_of_ble_eq_true rfl) (Nat.le_of_ble_eq_true rfl) (Nat.le_of_ble_eq_true rfl) (Nat.le_of_ble_eq_true rfl) ?_
                  rintro _ _ ⟨I6, rfl, rfl, hF6⟩
                  rw [h3]
                  have h6 : I6 128 = t := (hF6 128 (by decide)).trans h3
                  refine x_istore dX11_made_157 (Nat.le_of_ble_eq_true rfl) ?_
                  try simp only [xst, xst2, xclr, xset, xwide]
                  refine x_iconst (v := 0) dX11_made_159 (by decide) ?_
                  refine x_istore dX11_made_160 (Nat.le_of_ble_eq_true rfl) ?_
                  try simp only [xst, xst2, xclr, xset, xwide]
                  have K162 : ∀ (fuel : Nat) (c : Nat) (I7 : Nat → Nat → Int32) (hc : c ≤ 4) (hG7 : xFrm [128] I6 I7) (h7 : ∀ j, I7 128 j = if 22 ≤ j ∧ j < 22 + c then I 128 j else t j), 4 - c < fuel → xX g Y_M_made 7 0 0 (fun r σ => ∃ I1 : Nat → Nat → Int32, r = some (.int (a_made (I 128) w)) ∧ σ = (nx, sh, P, I1) ∧ I1 128 = I 128 ∧ xFrm [127, 128, 130, 131, 132, 136, 137, 138, 139] I I1 ∧ xFd [24, 25] I I1) 162 [some (.ref 127), some (.int w), some (.int n), some (.int (bv gb)), some (.int (rcS t (cN t 0))), some (.int (nI c))] [] (nx, sh, P, I7) := by
                    intro fuel
                    induction fuel with
                    | zero => intro c I7 hc hG7 h7 hm; exact absurd hm (Nat.not_lt_zero _)
                    | succ fuel ih162 =>
                      intro c I7 hc hG7 h7 hm
                      refine x_iload dX11_made_162 rfl ?_
                      refine x_iconst (v := 4) dX11_made_164 (by decide) ?_
                      refine x_icmp_ge (tgt := 191) dX11_made_165 rfl (fun c165 => ?_) (fun c165 => ?_)
                      · have hie2 : c = 4 := cge_t (by decide) hc c165
                        subst hie2
                        refine x_iload_n dX11_made_191 rfl ?_
                        refine x_if_ne (tgt := 199) dX11_made_192 rfl (fun c192 => ?_) (fun c192 => ?_)
                        · refine x_iload dX11_made_199 rfl ?_
                          refine x_ireturn dX11_made_201 rfl nb_int ?_
                          refine ⟨I7, ?_, rfl, ?_, hF.tr (l := [127, 128, 130, 131, 132, 136, 137, 138, 139]) (l1 := [127, 128, 130, 131, 132, 136, 137, 138, 139]) ((hF6.mono (l := [127, 128, 130, 131, 132, 136, 137, 138, 139])).tr (l := [127, 128, 130, 131, 132, 136, 137, 138, 139]) (l1 := [127, 128, 130, 131, 132, 136, 137, 138, 139]) hG7), xFd.tr (l := [24, 25]) (l1 := [24, 25]) hD (xFd.tr (l := [24, 25]) (l1 := [24, 25]) (l2 := [24, 25]) (xFd.of hF6) (xFd.of hG7))⟩
                          · unfold a_made
                            rw [if_pos (b_t c6), cN_of e5 (by omega), hfin]
                            first | rw [if_pos c192] | rw [if_neg c192]
                          · funext j
                            rw [h7 j]
                            by_cases h : 22 ≤ j ∧ j < 22 + 4
                            · rw [if_pos h]
                            · rw [if_neg h]; exact hA j (by omega)
                        · refine x_iload_n dX11_made_195 rfl ?_
                          refine x_goto (tgt := 201) dX11_made_196 rfl ?_
                          refine x_ireturn dX11_made_201 rfl nb_int ?_
                          refine ⟨I7, ?_, rfl, ?_, hF.tr (l := [127, 128, 130, 131, 132, 136, 137, 138, 139]) (l1 := [127, 128, 130, 131, 132, 136, 137, 138, 139]) ((hF6.mono (l := [127, 128, 130, 131, 132, 136, 137, 138, 139])).tr (l := [127, 128, 130, 131, 132, 136, 137, 138, 139]) (l1 := [127, 128, 130, 131, 132, 136, 137, 138, 139]) hG7), xFd.tr (l := [24, 25]) (l1 := [24, 25]) hD (xFd.tr (l := [24, 25]) (l1 := [24, 25]) (l2 := [24, 25]) (xFd.of hF6) (xFd.of hG7))⟩
                          · unfold a_made
                            rw [if_pos (b_t c6), cN_of e5 (by omega), hfin]
                            first | rw [if_pos c192] | rw [if_neg c192]
                          · funext j
                            rw [h7 j]
                            by_cases h : 22 ≤ j ∧ j < 22 + 4
                            · rw [if_pos h]
                            · rw [if_neg h]; exact hA j (by omega)
                      · have him7 : c < 4 := cge_f (by decide) hc c165
                        refine x_aload_n dX11_made_168 rfl ?_
                        refine y_getr dX11_made_169 F_M_9 (fxo_127 hx) rfl (fxp_127_1 hx) ?_
                        refine x_bipush (v := 22) dX11_made_172 (by decide) ?_
                        refine x_iload dX11_made_174 rfl ?_
                        refine x_iadd dX11_made_176 ?_
                        refine x_aload_n dX11_made_177 rfl ?_
                        refine y_getr dX11_made_178 F_M_46 (fxo_127 hx) rfl (fxp_127_23 hx) ?_
                        refine x_iload dX11_made_181 rfl ?_
                        refine y_iaload dX11_made_183 (fxk_139 hx) (vi (j := c) rfl (by omega) (by decide)) (rI (j := c) (ci rfl (by omega)) ((congrFun (hG7 139 (by decide)) c).trans ((congrFun (hF6 139 (by decide)) c).trans (hK c him7)))) ?_
                        refine y_iastore dX11_made_184 (fxk_128 hx) (vi (j := (22 + c)) (nadd (a := 22) (b := c) rfl rfl) (by omega) (by decide)) (ci (j := (22 + c)) (nadd (a := 22) (b := c) rfl rfl) (by omega)) ?_
                        refine x_iinc (v := (nI (c + 1))) dX11_made_185 rfl (nI_1 _) (Nat.le_of_ble_eq_true rfl) ?_
                        try simp only [xst, xst2, xclr, xset, xwide]
                        refine x_goto (tgt := 162) dX11_made_188 rfl ?_
                        exact ih162 (c + 1) _ (by omega) (xFrs hG7) (fun j => by
                          rw [xup_at]
                          by_cases h : j = 22 + c
                          · rw [if_pos ⟨rfl, h⟩, if_pos (by omega), h]
                          · rw [if_neg (fun z => h z.2), h7 j]
                            by_cases h2 : 22 ≤ j ∧ j < 22 + c
                            · rw [if_pos h2, if_pos (by omega)]
                            · rw [if_neg h2, if_neg (by omega)]) (by omega)
                  exact K162 _ 0 I6 (by decide) xFrm.rf (fun j => by rw [if_neg (by omega)]; exact congrFun h6 j) (Nat.lt_succ_self _)
                · have hgb : gb = true := bv_1 c58
                  refine x_aload_n dX11_made_61 rfl ?_
                  refine x_aload_n dX11_made_62 rfl ?_
                  refine y_getr dX11_made_63 F_M_9 (fxo_127 hx) rfl (fxp_127_1 hx) ?_
                  refine x_bipush (v := 95) dX11_made_66 (by decide) ?_
                  refine x_iload dX11_made_68 rfl ?_
                  refine x_iadd dX11_made_70 ?_
                  refine y_iaload dX11_made_71 (fxk_128 hx) (vi (j := (95 + k)) (nadd (a := 95) (b := k) rfl rfl) (by omega) (by decide)) (rI (j := (95 + k)) (ci (nadd (a := 95) (b := k) rfl rfl) (by omega)) ((congrFun h3 _).trans (hA _ (by omega)))) ?_
                  refine x_iconst (v := 0) dX11_made_72 (by decide) ?_
                  refine x_callV (k2 := 0) (n2 := 0) dX11_made_73 LV_M_249 (r_paysNow (I := I3) (p := I 128 (95 + k)) (back := 0) hx (by rw [h3]; exact hRt) (by decide)) rfl rfl (fxo_127 hx) rfl (Nat.le_of_ble_eq_true rfl) (Nat.le_of_ble_eq_true rfl) (Nat.le_of_ble_eq_true rfl) (Nat.le_of_ble_eq_true rfl) ?_
                  rintro _ _ ⟨I4, rfl, rfl, hF4, hD4, hWv, h24, h25, h138⟩
                  rw [h3] at h24 h25 h138
                  have h4 : I4 128 = t := (hF4 128 (by decide)).trans h3
                  have J90 : ∀ (x : Int32) (gb2 : Bool) (hx2 : x = bv gb2) (hg2 : gb2 = decide ((pyA t (I 128 (95 + k)) 0).1 < 1000000)), xX g Y_M_made 7 0 0 (fun r σ => ∃ I1 : Nat → Nat → Int32, r = some (.int (a_made (I 128) w)) ∧ σ = (nx, sh, P, I1) ∧ I1 128 = I 128 ∧ xFrm [127, 128, 130, 131, 132, 136, 137, 138, 139] I I1 ∧ xFd [24, 25] I I1) 90 [some (.ref 127), some (.int w), some (.int n), some (.int (bv gb)), some (.int (nI k)), v5] [.int x] (nx, sh, P, I4) := by
                    intro x gb2 hx2 hg2
                    rw [hx2]
                    refine x_istore_n dX11_made_90 (Nat.le_of_ble_eq_true rfl) ?_
                    try simp only [xst, xst2, xclr, xset, xwide]
                    have J101 : ∀ (y : Int32) (hy : y = bv gb2), xX g Y_M_made 7 0 0 (fun r σ => ∃ I1 : Nat → Nat → Int32, r = some (.int (a_made (I 128) w)) ∧ σ = (nx, sh, P, I1) ∧ I1 128 = I 128 ∧ xFrm [127, 128, 130, 131, 132, 136, 137, 138, 139] I I1 ∧ xFd [24, 25] I I1) 101 [some (.ref 127), some (.int w), some (.int n), some (.int (bv gb2)), some (.int (nI k)), v5] [.int y, .int n] (nx, sh, P, I4) := by
                      intro y hy
                      rw [hy]
                      refine x_iadd dX11_made_101 ?_
                      refine x_istore_n dX11_made_102 (Nat.le_of_ble_eq_true rfl) ?_
                      try simp only [xst, xst2, xclr, xset, xwide]
                      refine x_iconst (v := 0) dX11_made_103 (by decide) ?_
                      refine x_istore dX11_made_104 (Nat.le_of_ble_eq_true rfl) ?_
                      try simp only [xst, xst2, xclr, xset, xwide]
                      have K106 : ∀ (fuel : Nat) (c : Nat) (u : Nat → Int32) (I5 : Nat → Nat → Int32) (hc : c ≤ n0) (hz : c = 0 ∨ gb2 = true) (h5 : I5 128 = u) (hu : ∀ j, u j = if 22 ≤ j ∧ j < 22 + c then t j - (pyA t (I 128 (95 + k)) 0).2.2 (j - 22) else t j) (hG5 : xFrm [128] I4 I5), n0 - c < fuel → xX g Y_M_made 7 0 0 (fun r σ => ∃ I1 : Nat → Nat → Int32, r = some (.int (a_made (I 128) w)) ∧ σ = (nx, sh, P, I1) ∧ I1 128 = I 128 ∧ xFrm [127, 128, 130, 131, 132, 136, 137, 138, 139] I I1 ∧ xFd [24, 25] I I1) 106 [some (.ref 127), some (.int w), some (.int (n + bv gb2)), some (.int (bv gb2)), some (.int (nI k)), some (.int (nI c))] [] (nx, sh, P, I5) := by
                        intro fuel
                        induction fuel with
                        | zero => intro c u I5 hc hz h5 hu hG5 hm; exact absurd hm (Nat.not_lt_zero _)
                        | succ fuel ih106 =>
                          intro c u I5 hc hz h5 hu hG5 hm
                          refine x_iload dX11_made_106 rfl ?_
                          refine x_aload_n dX11_made_108 rfl ?_
                          refine y_getr dX11_made_109 F_M_9 (fxo_127 hx) rfl (fxp_127_1 hx) ?_
                          refine x_iconst (v := 0) dX11_made_112 (by decide) ?_
                          refine y_iaload dX11_made_113 (fxk_128 hx) (vi (j := 0) rfl (by omega) (by decide)) (rI (j := 0) rfl ((congrFun h5 0).trans ((hu 0).trans ((if_neg (by omega)).trans ((hA 0 (by omega)).trans e0))))) ?_
                          refine x_icmp_ge (tgt := 147) dX11_made_114 rfl (fun c114 => ?_) (fun c114 => ?_)
                          · have hge : (gb2 = true ∧ c = n0) ∨ (gb2 = false ∧ c = 0) := by
                              have hcn : c = n0 := cge_t (by omega) hc c114
                              cases hb : gb2 with
                              | true => exact Or.inl ⟨rfl, hcn⟩
                              | false =>
                                rcases hz with h | h
                                · exact Or.inr ⟨rfl, h⟩
                                · rw [hb] at h; cases h
                            have huu : u = if gb2 = true then mdU t (pyA t (I 128 (95 + k)) 0) else t := by
                              funext j
                              rw [hu j]
                              rcases hge with ⟨h1, h2⟩ | ⟨h1, h2⟩
                              · rw [if_pos h1]; unfold mdU; rw [show cN t 0 = c by rw [h2]; exact (congrArg Int32.toNatClampNeg (hA 0 (by omega))).trans (cN_of e0 (by omega))]
                              · rw [if_neg (show ¬ (22 ≤ j ∧ j < 22 + c) by omega), h1]; rfl
                            have hM2 : mdS (I 128) (k + 1) = (u, n + bv gb2, gb2) := by
                              show (if (mdS (I 128) k).2.2 = true then _ else mdS (I 128) k) = _
                              rw [hM, if_pos hgb]
                              show (if (pyA t (I 128 (95 + k)) 0).1 < 1000000 then (mdU t (pyA t (I 128 (95 + k)) 0), n + 1, true) else (t, n, false)) = _
                              rw [huu]
                              rcases hge with ⟨h1, h2⟩ | ⟨h1, h2⟩
                              · rw [h1, if_pos (of_decide_eq_true (hg2.symm.trans h1))]; rfl
                              · rw [h1, if_neg (of_decide_eq_false (hg2.symm.trans h1)), if_neg (by decide)]; show _ = (t, n + 0, false); rw [Int32.add_zero]
                            have hRu : RI u := by
                              rw [huu]
                              rcases hge with ⟨h1, h2⟩ | ⟨h1, h2⟩
                              · rw [if_pos h1]; exact mdU_RI hRt (of_decide_eq_true (hg2.symm.trans h1))
                              · rw [if_neg (by rw [h1]; decide)]; exact hRt
                            have hAu : ∀ j, ¬ (22 ≤ j ∧ j < 26) → u j = I 128 j := fun j hj => by rw [hu j, if_neg (by omega)]; exact hA j hj
                            refine x_iinc (v := (nI (k + 1))) dX11_made_147 rfl (nI_1 _) (Nat.le_of_ble_eq_true rfl) ?_
                            try simp only [xst, xst2, xclr, xset, xwide]
                            refine x_goto (tgt := 46) dX11_made_150 rfl ?_
                            exact ih46 (k + 1) _ _ u _ I5 (by omega) hM2 hRu hAu h5 (hF.tr (l := [127, 128, 130, 131, 132, 136, 137, 138, 139]) (l1 := [127, 128, 130, 131, 132, 136, 137, 138, 139]) ((hF4.mono (l := [127, 128, 130, 131, 132, 136, 137, 138, 139])).tr (l := [127, 128, 130, 131, 132, 136, 137, 138, 139]) (l1 := [127, 128, 130, 131, 132, 136, 137, 138, 139]) hG5)) (xFd.tr (l := [24, 25]) (l1 := [24, 25]) hD (xFd.tr (l := [24, 25]) (l1 := [24, 25]) (l2 := [24, 25]) hD4 (xFd.of hG5))) (fun j hj => (congrFun (hG5 139 (by decide)) j).trans ((congrFun (hF4 139 (by decide)) j).trans (hK j hj))) (by omega)
                          · have hcm : c < n0 := cge_f (by omega) hc c114
                            refine x_iload_n dX11_made_117 rfl ?_
                            refine x_if_eq (tgt := 147) dX11_made_118 rfl (fun c118 => ?_) (fun c118 => ?_)
                            · have hge : (gb2 = true ∧ c = n0) ∨ (gb2 = false ∧ c = 0) := by
                                have hb := bv_0 c118
                                rcases hz with h | h
                                · exact Or.inr ⟨hb, h⟩
                                · rw [hb] at h; cases h
                              have huu : u = if gb2 = true then mdU t (pyA t (I 128 (95 + k)) 0) else t := by
                                funext j
                                rw [hu j]
                                rcases hge with ⟨h1, h2⟩ | ⟨h1, h2⟩
                                · rw [if_pos h1]; unfold mdU; rw [show cN t 0 = c by rw [h2]; exact (congrArg Int32.toNatClampNeg (hA 0 (by omega))).trans (cN_of e0 (by omega))]
                                · rw [if_neg (show ¬ (22 ≤ j ∧ j < 22 + c) by omega), h1]; rfl
                              have hM2 : mdS (I 128) (k + 1) = (u, n + bv gb2, gb2) := by
                                show (if (mdS (I 128) k).2.2 = true then _ else mdS (I 128) k) = _
                                rw [hM, if_pos hgb]
                                show (if (pyA t (I 128 (95 + k)) 0).1 < 1000000 then (mdU t (pyA t (I 128 (95 + k)) 0), n + 1, true) else (t, n, false)) = _
                                rw [huu]
                                rcases hge with ⟨h1, h2⟩ | ⟨h1, h2⟩
                                · rw [h1, if_pos (of_decide_eq_true (hg2.symm.trans h1))]; rfl
                                · rw [h1, if_neg (of_decide_eq_false (hg2.symm.trans h1)), if_neg (by decide)]; show _ = (t, n + 0, false); rw [Int32.add_zero]
                              have hRu : RI u := by
                                rw [huu]
                                rcases hge with ⟨h1, h2⟩ | ⟨h1, h2⟩
                                · rw [if_pos h1]; exact mdU_RI hRt (of_decide_eq_true (hg2.symm.trans h1))
                                · rw [if_neg (by rw [h1]; decide)]; exact hRt
                              have hAu : ∀ j, ¬ (22 ≤ j ∧ j < 26) → u j = I 128 j := fun j hj => by rw [hu j, if_neg (by omega)]; exact hA j hj
                              refine x_iinc (v := (nI (k + 1))) dX11_made_147 rfl (nI_1 _) (Nat.le_of_ble_eq_true rfl) ?_
                              try simp only [xst, xst2, xclr, xset, xwide]
                              refine x_goto (tgt := 46) dX11_made_150 rfl ?_
                              exact ih46 (k + 1) _ _ u _ I5 (by omega) hM2 hRu hAu h5 (hF.tr (l := [127, 128, 130, 131, 132, 136, 137, 138, 139]) (l1 := [127, 128, 130, 131, 132, 136, 137, 138, 139]) ((hF4.mono (l := [127, 128, 130, 131, 132, 136, 137, 138, 139])).tr (l := [127, 128, 130, 131, 132, 136, 137, 138, 139]) (l1 := [127, 128, 130, 131, 132, 136, 137, 138, 139]) hG5)) (xFd.tr (l := [24, 25]) (l1 := [24, 25]) hD (xFd.tr (l := [24, 25]) (l1 := [24, 25]) (l2 := [24, 25]) hD4 (xFd.of hG5))) (fun j hj => (congrFun (hG5 139 (by decide)) j).trans ((congrFun (hF4 139 (by decide)) j).trans (hK j hj))) (by omega)
                            · have hgt : gb2 = true := bv_1 c118
                              have hyne : ¬ (pyA t (I 128 (95 + k)) 0).1 = 1000000 := fun z => by
                                have h9 := of_decide_eq_true (hg2.symm.trans hgt)
                                rw [z] at h9
                                exact absurd h9 (by decide)
                              refine x_aload_n dX11_made_121 rfl ?_
                              refine y_getr dX11_made_122 F_M_9 (fxo_127 hx) rfl (fxp_127_1 hx) ?_
                              refine x_bipush (v := 22) dX11_made_125 (by decide) ?_
                              refine x_iload dX11_made_127 rfl ?_
                              refine x_iadd dX11_made_129 ?_
                              refine x_dup2 dX11_made_130 rfl rfl ?_
                              refine y_iaload dX11_made_131 (fxk_128 hx) (vi (j := (22 + c)) (nadd (a := 22) (b := c) rfl rfl) (by omega) (by decide)) (rI (j := (22 + c)) (ci (nadd (a := 22) (b := c) rfl rfl) (by omega)) ((congrFun h5 _).trans ((hu _).trans (if_neg (by omega))))) ?_
                              refine x_aload_n dX11_made_132 rfl ?_
                              refine y_getr dX11_made_133 F_M_43 (fxo_127 hx) rfl (fxp_127_22 hx) ?_
                              refine x_iload dX11_made_136 rfl ?_
                              refine y_iaload dX11_made_138 (fxk_138 hx) (vi (j := c) rfl (by omega) (by decide)) (rI (j := c) (ci rfl (by omega)) ((congrFun (hG5 138 (by decide)) c).trans (h138 hyne c (by omega)))) ?_
                              refine x_isub dX11_made_139 ?_
                              refine y_iastore dX11_made_140 (fxk_128 hx) (vi (j := (22 + c)) (nadd (a := 22) (b := c) rfl rfl) (by omega) (by decide)) (ci (j := (22 + c)) (nadd (a := 22) (b := c) rfl rfl) (by omega)) ?_
                              refine x_iinc (v := (nI (c + 1))) dX11_made_141 rfl (nI_1 _) (Nat.le_of_ble_eq_true rfl) ?_
                              try simp only [xst, xst2, xclr, xset, xwide]
                              refine x_goto (tgt := 106) dX11_made_144 rfl ?_
                              exact ih106 (c + 1) (upd u (22 + c) (t (22 + c) - (pyA t (I 128 (95 + k)) 0).2.2 c)) _ (by omega) (Or.inr hgt) (by rw [xup_va, va_up_at, h5]) (fun j => by
                                unfold upd
                                by_cases h : j = 22 + c
                                · rw [if_pos h, if_pos (by omega), h, show 22 + c - 22 = c by omega]
                                · rw [if_neg h, hu j]
                                  by_cases h2 : 22 ≤ j ∧ j < 22 + c
                                  · rw [if_pos h2, if_pos (by omega)]
                                  · rw [if_neg h2, if_neg (by omega)]) (xFrs hG5) (by omega)
                      exact K106 _ 0 t I4 (Nat.zero_le _) (Or.inl rfl) h4 (fun j => by rw [if_neg (by omega)]) xFrm.rf (Nat.lt_succ_self _)
                    refine x_iload_n dX11_made_91 rfl ?_
                    refine x_iload_n dX11_made_92 rfl ?_
                    refine x_if_eq (tgt := 100) dX11_made_93 rfl (fun c93 => ?_) (fun c93 => ?_)
                    · refine x_iconst (v := 0) dX11_made_100 (by decide) ?_
                      first | exact J101 _ (bvT (bv_1 c93)) | exact J101 _ c93.symm
                    · refine x_iconst (v := 1) dX11_made_96 (by decide) ?_
                      refine x_goto (tgt := 101) dX11_made_97 rfl ?_
                      first | exact J101 _ (bvT (bv_1 c93)) | exact J101 _ c93.symm
                  refine x_aload_n dX11_made_76 rfl ?_
                  refine y_geti dX11_made_77 F_M_236 (fxo_127 hx) rfl h24 ?_
                  refine x_ldc dX11_made_80 KI_X11_180 ?_
                  refine x_icmp_ge (tgt := 89) dX11_made_82 rfl (fun c82 => ?_) (fun c82 => ?_)
                  · refine x_iconst (v := 0) dX11_made_89 (by decide) ?_
                    first | exact J90 _ true rfl (decide_eq_true (Int32.not_le.mp c82)).symm | exact J90 _ false rfl (decide_eq_false (Int32.not_lt.mpr c82)).symm
                  · refine x_iconst (v := 1) dX11_made_85 (by decide) ?_
                    refine x_goto (tgt := 90) dX11_made_86 rfl ?_
                    first | exact J90 _ true rfl (decide_eq_true (Int32.not_le.mp c82)).symm | exact J90 _ false rfl (decide_eq_false (Int32.not_lt.mpr c82)).symm
          exact K46 _ 0 0 true (I 128) none I2 (Nat.zero_le _) rfl hR (fun _ _ => rfl) (hF 128 (by decide)) (hF.mono) (xFd.of hF) hK (Nat.lt_succ_self _)
        · have him : c < 4 := cge_f (by decide) hc c15
          refine x_aload_n dX11_made_18 rfl ?_
          refine y_getr dX11_made_19 F_M_46 (fxo_127 hx) rfl (fxp_127_23 hx) ?_
          refine x_iload_n dX11_made_22 rfl ?_
          refine x_aload_n dX11_made_23 rfl ?_
          refine y_getr dX11_made_24 F_M_9 (fxo_127 hx) rfl (fxp_127_1 hx) ?_
          refine x_bipush (v := 22) dX11_made_27 (by decide) ?_
          refine x_iload_n dX11_made_29 rfl ?_
          refine x_iadd dX11_made_30 ?_
          refine y_iaload dX11_made_31 (fxk_128 hx) (vi (j := (22 + c)) (nadd (a := 22) (b := c) rfl rfl) (by omega) (by decide)) (rI (j := (22 + c)) (ci (nadd (a := 22) (b := c) rfl rfl) (by omega)) (congrFun (hF 128 (by decide)) _)) ?_
          refine y_iastore dX11_made_32 (fxk_139 hx) (vi (j := c) rfl (by omega) (by decide)) (ci (j := c) rfl (by omega)) ?_
          refine x_iinc (v := (nI (c + 1))) dX11_made_33 rfl (nI_1 _) (Nat.le_of_ble_eq_true rfl) ?_
          try simp only [xst, xst2, xclr, xset, xwide]
          refine x_goto (tgt := 13) dX11_made_36 rfl ?_
          exact ih13 (c + 1) _ (by omega) (xFrs hF) (fun j hj => by
            rw [xup_at]
            by_cases h : j = c
            · rw [if_pos ⟨rfl, h⟩, h]
            · rw [if_neg (fun z => h z.2)]; exact hK j (by omega)) (by omega)
    exact K13 _ 0 I (by decide) xFrm.rf (fun j h => absurd h (Nat.not_lt_zero _)) (Nat.lt_succ_self _)
  · refine x_iconst (v := (-1)) dX11_made_9 (by decide) ?_
    refine x_ireturn dX11_made_10 rfl nb_int ?_
    exact ⟨I, by unfold a_made; rw [if_neg (b_f c6)], rfl, rfl, xFrm.rf, xFd.rf⟩
