/-! the reference: worths, payings, simple calls -/
theorem nadd {x y : Int32} {a b : Nat} (ha : x = nI a) (hb : y = nI b) : x + y = nI (a + b) := by subst ha; subst hb; exact nI_add a b
theorem nmul {x y : Int32} {a b : Nat} (ha : x = nI a) (hb : y = nI b) : x * y = nI (a * b) := by subst ha; subst hb; exact pk_mul a b
/-- WORTH of coin c, 0 where there is none -/
def wv (s : Nat → Int32) (c : Nat) : Int32 := if c < cN s 0 then wc s c else 0
theorem RI.kd {s : Nat → Int32} (h : RI s) {c : Nat} (hc : c < cN s 0) : ∃ k, k ≤ 6 ∧ s (10 + c) = nI k := (h.2.2.2.1 c hc).1

set_option maxHeartbeats 4000000 in
set_option maxRecDepth 100000 in
theorem r_looksForWorths {g : xG} {nx : Nat} {sh : Nat → Nat × Nat} {P : Nat → Nat → Option Nat} {I : Nat → Nat → Int32} (hx : xFx sh P) (hR : RI (I 128)) : xMet g Y_M_looksForWorths 3 0 0 [.ref 127] (nx, sh, P, I) (fun r σ => ∃ I1 : Nat → Nat → Int32, r = none ∧ σ = (nx, sh, P, I1) ∧ xFrm [130, 131, 132] I I1 ∧ ∀ j, j < 4 → I1 132 j = wv (I 128) j) := by
  refine xMet.of [some (.ref 127), none] (by decide +kernel) (Nat.le_of_ble_eq_true rfl) rfl ?_
  refine x_iconst (v := 0) dX11_looksForWorths_0 (by decide) ?_
  refine x_istore_n dX11_looksForWorths_1 (Nat.le_of_ble_eq_true rfl) ?_
  try simp only [xst, xst2, xclr, xset, xwide]
  have K2 : ∀ (fuel : Nat) (i : Nat) (I1 : Nat → Nat → Int32) (hi : i ≤ 4) (hF : xFrm [130, 131, 132] I I1) (hW : ∀ j, j < i → I1 132 j = wv (I 128) j), 4 - i < fuel → xX g Y_M_looksForWorths 3 0 0 (fun r σ => ∃ I1 : Nat → Nat → Int32, r = none ∧ σ = (nx, sh, P, I1) ∧ xFrm [130, 131, 132] I I1 ∧ ∀ j, j < 4 → I1 132 j = wv (I 128) j) 2 [some (.ref 127), some (.int (nI i))] [] (nx, sh, P, I1) := by
    intro fuel
    induction fuel with
    | zero => intro i I1 hi hF hW hm; exact absurd hm (Nat.not_lt_zero _)
    | succ fuel ih2 =>
      intro i I1 hi hF hW hm
      have e128 : I1 128 = I 128 := hF 128 (by decide)
      have h04 := hR.c0.2
      refine x_iload_n dX11_looksForWorths_2 rfl ?_
      refine x_iconst (v := 4) dX11_looksForWorths_3 (by decide) ?_
      refine x_icmp_ge (tgt := 47) dX11_looksForWorths_4 rfl (fun c4 => ?_) (fun c4 => ?_)
      · have hie : i = 4 := cge_t (by decide) hi c4
        refine x_return dX11_looksForWorths_47 rfl ?_
        subst hie
        exact ⟨I1, rfl, rfl, hF, hW⟩
      · have him : i < 4 := cge_f (by decide) hi c4
        refine x_aload_n dX11_looksForWorths_7 rfl ?_
        refine y_getr dX11_looksForWorths_8 F_M_25 (fxo_127 hx) rfl (fxp_127_11 hx) ?_
        refine x_iload_n dX11_looksForWorths_11 rfl ?_
        refine x_iload_n dX11_looksForWorths_12 rfl ?_
        refine x_aload_n dX11_looksForWorths_13 rfl ?_
        refine y_getr dX11_looksForWorths_14 F_M_9 (fxo_127 hx) rfl (fxp_127_1 hx) ?_
        refine x_iconst (v := 0) dX11_looksForWorths_17 (by decide) ?_
        refine y_iaload dX11_looksForWorths_18 (fxk_128 hx) (vi (j := 0) rfl (by omega) (by decide)) (rI (j := 0) (ci rfl (by omega)) (congrFun e128 _)) ?_
        rw [hR.c0.1]
        refine x_icmp_ge (tgt := 39) dX11_looksForWorths_19 rfl (fun c19 => ?_) (fun c19 => ?_)
        · have hwi : (0 : Int32) = wv (I 128) i := by unfold wv; rw [if_neg]; have := (nI_leI (by omega) (by omega)).mp c19; omega
          have hF2 := hF
          have hW2 := hW
          refine x_iconst (v := 0) dX11_looksForWorths_39 (by decide) ?_
          refine y_iastore dX11_looksForWorths_40 (fxk_132 hx) (vi (j := i) rfl (by omega) (by decide)) (ci (j := i) rfl (by omega)) ?_
          refine x_iinc (v := (nI (i + 1))) dX11_looksForWorths_41 rfl (nI_1 _) (Nat.le_of_ble_eq_true rfl) ?_
          try simp only [xst, xst2, xclr, xset, xwide]
          refine x_goto (tgt := 2) dX11_looksForWorths_44 rfl ?_
          exact ih2 (i + 1) _ (by omega) (hF2.xup) (fun j hj => by
            rw [xup_at]
            by_cases hji : j = i
            · rw [if_pos ⟨rfl, hji⟩, hji]; exact hwi
            · rw [if_neg (fun z => hji z.2)]; exact (hW2 j (by omega))) (by omega)
        · have hic : i < cN (I 128) 0 := (nI_ltI (by omega) (by omega)).mp (Int32.not_le.mp c19)
          refine x_aload_n dX11_looksForWorths_22 rfl ?_
          refine x_iload_n dX11_looksForWorths_23 rfl ?_
          refine x_aload_n dX11_looksForWorths_24 rfl ?_
          refine y_getr dX11_looksForWorths_25 F_M_9 (fxo_127 hx) rfl (fxp_127_1 hx) ?_
          refine x_bipush (v := 18) dX11_looksForWorths_28 (by decide) ?_
          refine x_iload_n dX11_looksForWorths_30 rfl ?_
          refine x_iadd dX11_looksForWorths_31 ?_
          refine y_iaload dX11_looksForWorths_32 (fxk_128 hx) (vi (j := (18 + i)) (nadd (a := 18) (b := i) rfl rfl) (by omega) (by decide)) (rI (j := (18 + i)) (ci (nadd (a := 18) (b := i) rfl rfl) (by omega)) (congrFun e128 _)) ?_
          refine x_callV (k2 := 0) (n2 := 0) dX11_looksForWorths_33 LV_M_158 (r_worthOf (I := I1) (c := i) hx him (by rw [e128]; exact hR.lw) (by rw [e128]; exact hR.dy) (by rw [e128]; exact hR.kd hic)) rfl rfl (fxo_127 hx) rfl (Nat.le_of_ble_eq_true rfl) (Nat.le_of_ble_eq_true rfl) (Nat.le_of_ble_eq_true rfl) (Nat.le_of_ble_eq_true rfl) ?_
          rintro _ _ ⟨I2, rfl, rfl, hF3⟩
          have hF2 : xFrm [130, 131, 132] I I2 := hF.tr hF3
          have hW2 : ∀ j, j < i → I2 132 j = wv (I 128) j := fun j hj => (congrFun (hF3 132 (by decide)) j).trans (hW j hj)
          have hwi : wo (I1 128) i (I 128 (18 + i)) (I1 128 (22 + i)) (I1 128 9) = wv (I 128) i := by rw [e128]; unfold wv; rw [if_pos hic]; rfl
          refine x_goto (tgt := 40) dX11_looksForWorths_36 rfl ?_
          refine y_iastore dX11_looksForWorths_40 (fxk_132 hx) (vi (j := i) rfl (by omega) (by decide)) (ci (j := i) rfl (by omega)) ?_
          refine x_iinc (v := (nI (i + 1))) dX11_looksForWorths_41 rfl (nI_1 _) (Nat.le_of_ble_eq_true rfl) ?_
          try simp only [xst, xst2, xclr, xset, xwide]
          refine x_goto (tgt := 2) dX11_looksForWorths_44 rfl ?_
          exact ih2 (i + 1) _ (by omega) (hF2.xup) (fun j hj => by
            rw [xup_at]
            by_cases hji : j = i
            · rw [if_pos ⟨rfl, hji⟩, hji]; exact hwi
            · rw [if_neg (fun z => hji z.2)]; exact (hW2 j (by omega))) (by omega)
  exact K2 _ 0 I (by decide) xFrm.rf (fun j hj => absurd hj (Nat.not_lt_zero j)) (Nat.lt_succ_self _)

theorem RI.k {s : Nat → Int32} (h : RI s) : (∃ n, n ≤ 4 ∧ s 0 = nI n) ∧ (∃ n, n ≤ 5 ∧ s 1 = nI n) ∧ (∃ n, n ≤ 5 ∧ s 2 = nI n) ∧ (∃ n, n ≤ 6 ∧ s 3 = nI n) ∧ (∃ n, n ≤ 6 ∧ s 4 = nI n) ∧ (∃ n, n ≤ 6 ∧ s 5 = nI n) ∧ (∃ n, n ≤ 8 ∧ s 6 = nI n) ∧ (∃ n, n ≤ 100 ∧ s 7 = nI n) ∧ ∃ n, n ≤ 9999 ∧ s 9 = nI n := by
  obtain ⟨h1, ⟨b0, b1, b2, b3, b4, b5, b6, b7⟩, h3, -⟩ := h
  exact ⟨⟨_, b0, h1 0 (by decide)⟩, ⟨_, b1, h1 1 (by decide)⟩, ⟨_, b2, h1 2 (by decide)⟩, ⟨_, b3, h1 3 (by decide)⟩, ⟨_, b4, h1 4 (by decide)⟩, ⟨_, b5, h1 5 (by decide)⟩, ⟨_, b6, h1 6 (by decide)⟩, ⟨_, b7, h1 7 (by decide)⟩, h3⟩
theorem cN_of {s : Nat → Int32} {k n : Nat} (h : s k = nI n) (hn : n < 2 ^ 31) : cN s k = n := by unfold cN; rw [h, nI_clamp hn]
def a_feed (s : Nat → Int32) (x : Int32) : Int32 := if 0 ≤ x ∧ x ≤ 127 then (if s 7 = 100 then -4 else s 7 + 1) else -2
def s_feed (s : Nat → Int32) (x : Int32) : Nat → Int32 := if (0 ≤ x ∧ x ≤ 127) ∧ ¬ s 7 = 100 then upd (upd s (117 + cN s 7) x) 7 (s 7 + 1) else s
def a_coin (s : Nat → Int32) (k v b p : Int32) : Int32 := if 0 ≤ k ∧ k ≤ 6 then (if (0 ≤ v ∧ v ≤ 9) ∧ (1 ≤ b ∧ b ≤ 9) ∧ 0 ≤ p ∧ p ≤ 9 then (if s 0 = 4 then -4 else s 0) else -2) else -1
def s_coin (s : Nat → Int32) (k v b p : Int32) : Nat → Int32 := if (0 ≤ k ∧ k ≤ 6) ∧ ((0 ≤ v ∧ v ≤ 9) ∧ (1 ≤ b ∧ b ≤ 9) ∧ 0 ≤ p ∧ p ≤ 9) ∧ ¬ s 0 = 4 then upd (xZf (upd (upd (upd (upd s (10 + cN s 0) k) (14 + cN s 0) v) (18 + cN s 0) b) (22 + cN s 0) p) (26 + 4 * cN s 0) 4) 0 (s 0 + 1) else s
def a_ware (s : Nat → Int32) (x : Int32) : Int32 := if 1 ≤ x ∧ x ≤ 60 then (if s 1 = 5 then -4 else s 1) else -2
def s_ware (s : Nat → Int32) (x : Int32) : Nat → Int32 := if (1 ≤ x ∧ x ≤ 60) ∧ ¬ s 1 = 5 then upd (upd s (42 + cN s 1) x) 1 (s 1 + 1) else s
def a_pass (s : Nat → Int32) (x : Int32) : Int32 := if 0 ≤ x ∧ x ≤ 60 then (if 9999 < s 9 + x then -3 else s 9 + x) else -2
def s_pass (s : Nat → Int32) (x : Int32) : Nat → Int32 := if (0 ≤ x ∧ x ≤ 60) ∧ s 9 + x ≤ 9999 then upd s 9 (s 9 + x) else s
def a_row (s : Nat → Int32) (c k v : Int32) : Int32 := if (0 ≤ c ∧ c < s 0) ∧ 0 ≤ k ∧ k ≤ 3 then (if 0 ≤ v ∧ v ≤ 9 then (if s (10 + c.toNatClampNeg) = 6 then s (26 + 4 * c.toNatClampNeg + k.toNatClampNeg) else -3) else -2) else -1
def s_row (s : Nat → Int32) (c k v : Int32) : Nat → Int32 := if ((0 ≤ c ∧ c < s 0) ∧ 0 ≤ k ∧ k ≤ 3) ∧ (0 ≤ v ∧ v ≤ 9) ∧ s (10 + c.toNatClampNeg) = 6 then upd s (26 + 4 * c.toNatClampNeg + k.toNatClampNeg) v else s
def a_set (s : Nat → Int32) (c w v : Int32) : Int32 := if (0 ≤ c ∧ c < s 0) ∧ 0 ≤ w ∧ w ≤ 1 then (if 1 - w ≤ v ∧ v ≤ 9 then (if w = 0 then s (18 + c.toNatClampNeg) else s (22 + c.toNatClampNeg)) else -2) else -1
def s_set (s : Nat → Int32) (c w v : Int32) : Nat → Int32 := if ((0 ≤ c ∧ c < s 0) ∧ 0 ≤ w ∧ w ≤ 1) ∧ 1 - w ≤ v ∧ v ≤ 9 then upd s (if w = 0 then 18 + c.toNatClampNeg else 22 + c.toNatClampNeg) v else s
def a_slate (s : Nat → Int32) (x z v : Int32) : Int32 := if x = -1 then 0 else if (0 ≤ x ∧ x ≤ 19) ∧ (0 ≤ z ∧ z ≤ 19) ∧ 0 ≤ v ∧ v ≤ 399 then (if s 4 = 6 then -4 else s 4 + 1) else -2
def s_slate (s : Nat → Int32) (x z v : Int32) : Nat → Int32 := if x = -1 then upd s 4 0 else if ((0 ≤ x ∧ x ≤ 19) ∧ (0 ≤ z ∧ z ≤ 19) ∧ 0 ≤ v ∧ v ≤ 399) ∧ ¬ s 4 = 6 then upd (upd (upd (upd s (77 + cN s 4) x) (83 + cN s 4) z) (89 + cN s 4) v) 4 (s 4 + 1) else s
def a_plan (s : Nat → Int32) (x : Int32) : Int32 := if x = -1 then 0 else if 0 ≤ x ∧ x ≤ 99 then (if s 5 = 6 then -4 else s 5 + 1) else -2
def s_plan (s : Nat → Int32) (x : Int32) : Nat → Int32 := if x = -1 then upd s 5 0 else if (0 ≤ x ∧ x ≤ 99) ∧ ¬ s 5 = 6 then upd (upd s (95 + cN s 5) x) 5 (s 5 + 1) else s
def a_book (s : Nat → Int32) (c v : Int32) : Int32 := if c = -1 then 0 else if 0 ≤ c ∧ c < s 0 then (if 1 ≤ v ∧ v ≤ 99 then (if s 6 = 8 then -4 else s 6 + 1) else -2) else -1
def s_book (s : Nat → Int32) (c v : Int32) : Nat → Int32 := if c = -1 then upd s 6 0 else if (0 ≤ c ∧ c < s 0) ∧ (1 ≤ v ∧ v ≤ 99) ∧ ¬ s 6 = 8 then upd (upd (upd s (101 + cN s 6) c) (109 + cN s 6) v) 6 (s 6 + 1) else s

set_option maxHeartbeats 4000000 in
set_option maxRecDepth 100000 in
theorem r_ware {g : xG} {nx : Nat} {sh : Nat → Nat × Nat} {P : Nat → Nat → Option Nat} {I : Nat → Nat → Int32} (hx : xFx sh P) {x : Int32} (hR : RI (I 128)) : xMet g Y_M_ware 1 0 0 [.ref 127, .int x] (nx, sh, P, I) (fun r σ => ∃ I1 : Nat → Nat → Int32, r = some (.int (a_ware (I 128) x)) ∧ σ = (nx, sh, P, I1) ∧ I1 128 = s_ware (I 128) x ∧ xFrm [128] I I1) := by
  refine xMet.of [some (.ref 127), some (.int x)] (by decide +kernel) (Nat.le_of_ble_eq_true rfl) rfl ?_
  obtain ⟨⟨n0, b0, e0⟩, ⟨n1, b1, e1⟩, ⟨n2, b2, e2⟩, ⟨n3, b3, e3⟩, ⟨n4, b4, e4⟩, ⟨n5, b5, e5⟩, ⟨n6, b6, e6⟩, ⟨n7, b7, e7⟩, ⟨n9, b9, e9⟩⟩ := hR.k
  obtain ⟨s, hs⟩ : ∃ s, s = I 128 := ⟨_, rfl⟩
  refine x_iload_n dX11_ware_0 rfl ?_
  refine x_iconst (v := 1) dX11_ware_1 (by decide) ?_
  refine x_bipush (v := 60) dX11_ware_2 (by decide) ?_
  refine x_callS (k2 := 0) (n2 := 0) dX11_ware_4 LS_M_65 r_in rfl rfl (Nat.le_of_ble_eq_true rfl) (Nat.le_of_ble_eq_true rfl) (Nat.le_of_ble_eq_true rfl) (Nat.le_of_ble_eq_true rfl) ?_
  rintro _ _ ⟨rfl, rfl⟩
  refine x_if_ne (tgt := 13) dX11_ware_7 rfl (fun c7 => ?_) (fun c7 => ?_)
  · refine x_aload_n dX11_ware_13 rfl ?_
    refine y_getr dX11_ware_14 F_M_9 (fxo_127 hx) rfl (fxp_127_1 hx) ?_
    refine x_iconst (v := 1) dX11_ware_17 (by decide) ?_
    refine y_iaload dX11_ware_18 (fxk_128 hx) (vi (j := 1) rfl (by omega) (by decide)) (rI (j := 1) rfl e1) ?_
    refine x_iconst (v := 5) dX11_ware_19 (by decide) ?_
    refine x_icmp_ne (tgt := 26) dX11_ware_20 rfl (fun c20 => ?_) (fun c20 => ?_)
    · refine x_aload_n dX11_ware_26 rfl ?_
      refine y_getr dX11_ware_27 F_M_9 (fxo_127 hx) rfl (fxp_127_1 hx) ?_
      refine x_bipush (v := 42) dX11_ware_30 (by decide) ?_
      refine x_aload_n dX11_ware_32 rfl ?_
      refine y_getr dX11_ware_33 F_M_9 (fxo_127 hx) rfl (fxp_127_1 hx) ?_
      refine x_iconst (v := 1) dX11_ware_36 (by decide) ?_
      refine y_iaload dX11_ware_37 (fxk_128 hx) (vi (j := 1) rfl (by omega) (by decide)) (rI (j := 1) rfl e1) ?_
      refine x_iadd dX11_ware_38 ?_
      refine x_iload_n dX11_ware_39 rfl ?_
      refine y_iastore dX11_ware_40 (fxk_128 hx) (vi (j := (42 + n1)) (nadd (a := 42) (b := n1) rfl rfl) (by omega) (by decide)) (ci (j := (42 + n1)) (nadd (a := 42) (b := n1) rfl rfl) (by omega)) ?_
      rw [xup_va]
      refine x_aload_n dX11_ware_41 rfl ?_
      refine y_getr dX11_ware_42 F_M_9 (fxo_127 hx) rfl (fxp_127_1 hx) ?_
      refine x_iconst (v := 1) dX11_ware_45 (by decide) ?_
      refine x_dup2 dX11_ware_46 rfl rfl ?_
      refine y_iaload dX11_ware_47 (fxk_128 hx) (vi (j := 1) rfl (by omega) (by decide)) (rI (j := 1) rfl ((congrFun va_up_at _).trans ((if_neg (by omega)).trans e1))) ?_
      refine x_iconst (v := 1) dX11_ware_48 (by decide) ?_
      refine x_iadd dX11_ware_49 ?_
      refine y_iastore dX11_ware_50 (fxk_128 hx) (vi (j := 1) rfl (by omega) (by decide)) (ci (j := 1) rfl (by omega)) ?_
      rw [xup_row]
      refine x_aload_n dX11_ware_51 rfl ?_
      refine y_getr dX11_ware_52 F_M_9 (fxo_127 hx) rfl (fxp_127_1 hx) ?_
      refine x_iconst (v := 1) dX11_ware_55 (by decide) ?_
      refine y_iaload dX11_ware_56 (fxk_128 hx) (vi (j := 1) rfl (by omega) (by decide)) (rI (j := 1) rfl ((congrFun va_up_at _).trans (if_pos rfl : (if 1 = 1 then nI n1 + 1 else _) = nI n1 + 1))) ?_
      refine x_iconst (v := 1) dX11_ware_57 (by decide) ?_
      refine x_isub dX11_ware_58 ?_
      refine x_ireturn dX11_ware_59 rfl nb_int ?_
      exact ⟨_, by unfold a_ware; rw [if_pos (b_t c7), if_neg (show ¬ I 128 1 = 5 by rw [e1]; exact c20)]; rw [nI_1, nI_pred, e1], rfl, by rw [va_up_at]; unfold s_ware; rw [if_pos ⟨b_t c7, show ¬ I 128 1 = 5 by rw [e1]; exact c20⟩, cN_of e1 (by omega), e1], xFrm.rf.up (l1 := [])⟩
    · refine x_bipush (v := (-4)) dX11_ware_23 (by decide) ?_
      refine x_ireturn dX11_ware_25 rfl nb_int ?_
      first | exact ⟨I, by unfold a_ware; grind, rfl, by unfold s_ware; grind, xFrm.rf⟩ | exact ⟨_, by unfold a_ware; grind, rfl, by rw [va_up_at]; unfold s_ware; grind, xFrm.rf.up (l1 := [])⟩
  · refine x_bipush (v := (-2)) dX11_ware_10 (by decide) ?_
    refine x_ireturn dX11_ware_12 rfl nb_int ?_
    first | exact ⟨I, by unfold a_ware; grind, rfl, by unfold s_ware; grind, xFrm.rf⟩ | exact ⟨_, by unfold a_ware; grind, rfl, by rw [va_up_at]; unfold s_ware; grind, xFrm.rf.up (l1 := [])⟩

set_option maxHeartbeats 4000000 in
set_option maxRecDepth 100000 in
theorem r_feed {g : xG} {nx : Nat} {sh : Nat → Nat × Nat} {P : Nat → Nat → Option Nat} {I : Nat → Nat → Int32} (hx : xFx sh P) {x : Int32} (hR : RI (I 128)) : xMet g Y_M_feed 1 0 0 [.ref 127, .int x] (nx, sh, P, I) (fun r σ => ∃ I1 : Nat → Nat → Int32, r = some (.int (a_feed (I 128) x)) ∧ σ = (nx, sh, P, I1) ∧ I1 128 = s_feed (I 128) x ∧ xFrm [128] I I1) := by
  refine xMet.of [some (.ref 127), some (.int x)] (by decide +kernel) (Nat.le_of_ble_eq_true rfl) rfl ?_
  obtain ⟨⟨n0, b0, e0⟩, ⟨n1, b1, e1⟩, ⟨n2, b2, e2⟩, ⟨n3, b3, e3⟩, ⟨n4, b4, e4⟩, ⟨n5, b5, e5⟩, ⟨n6, b6, e6⟩, ⟨n7, b7, e7⟩, ⟨n9, b9, e9⟩⟩ := hR.k
  obtain ⟨s, hs⟩ : ∃ s, s = I 128 := ⟨_, rfl⟩
  refine x_iload_n dX11_feed_0 rfl ?_
  refine x_iconst (v := 0) dX11_feed_1 (by decide) ?_
  refine x_bipush (v := 127) dX11_feed_2 (by decide) ?_
  refine x_callS (k2 := 0) (n2 := 0) dX11_feed_4 LS_M_65 r_in rfl rfl (Nat.le_of_ble_eq_true rfl) (Nat.le_of_ble_eq_true rfl) (Nat.le_of_ble_eq_true rfl) (Nat.le_of_ble_eq_true rfl) ?_
  rintro _ _ ⟨rfl, rfl⟩
  refine x_if_ne (tgt := 13) dX11_feed_7 rfl (fun c7 => ?_) (fun c7 => ?_)
  · refine x_aload_n dX11_feed_13 rfl ?_
    refine y_getr dX11_feed_14 F_M_9 (fxo_127 hx) rfl (fxp_127_1 hx) ?_
    refine x_bipush (v := 7) dX11_feed_17 (by decide) ?_
    refine y_iaload dX11_feed_19 (fxk_128 hx) (vi (j := 7) rfl (by omega) (by decide)) (rI (j := 7) rfl e7) ?_
    refine x_bipush (v := 100) dX11_feed_20 (by decide) ?_
    refine x_icmp_ne (tgt := 28) dX11_feed_22 rfl (fun c22 => ?_) (fun c22 => ?_)
    · refine x_aload_n dX11_feed_28 rfl ?_
      refine y_getr dX11_feed_29 F_M_9 (fxo_127 hx) rfl (fxp_127_1 hx) ?_
      refine x_bipush (v := 117) dX11_feed_32 (by decide) ?_
      refine x_aload_n dX11_feed_34 rfl ?_
      refine y_getr dX11_feed_35 F_M_9 (fxo_127 hx) rfl (fxp_127_1 hx) ?_
      refine x_bipush (v := 7) dX11_feed_38 (by decide) ?_
      refine y_iaload dX11_feed_40 (fxk_128 hx) (vi (j := 7) rfl (by omega) (by decide)) (rI (j := 7) rfl e7) ?_
      refine x_iadd dX11_feed_41 ?_
      refine x_iload_n dX11_feed_42 rfl ?_
      refine y_iastore dX11_feed_43 (fxk_128 hx) (vi (j := (117 + n7)) (nadd (a := 117) (b := n7) rfl rfl) (by omega) (by decide)) (ci (j := (117 + n7)) (nadd (a := 117) (b := n7) rfl rfl) (by omega)) ?_
      rw [xup_va]
      refine x_aload_n dX11_feed_44 rfl ?_
      refine y_getr dX11_feed_45 F_M_9 (fxo_127 hx) rfl (fxp_127_1 hx) ?_
      refine x_bipush (v := 7) dX11_feed_48 (by decide) ?_
      refine x_dup2 dX11_feed_50 rfl rfl ?_
      refine y_iaload dX11_feed_51 (fxk_128 hx) (vi (j := 7) rfl (by omega) (by decide)) (rI (j := 7) rfl ((congrFun va_up_at _).trans ((if_neg (by omega)).trans e7))) ?_
      refine x_iconst (v := 1) dX11_feed_52 (by decide) ?_
      refine x_iadd dX11_feed_53 ?_
      refine y_iastore dX11_feed_54 (fxk_128 hx) (vi (j := 7) rfl (by omega) (by decide)) (ci (j := 7) rfl (by omega)) ?_
      rw [xup_row]
      refine x_aload_n dX11_feed_55 rfl ?_
      refine y_getr dX11_feed_56 F_M_9 (fxo_127 hx) rfl (fxp_127_1 hx) ?_
      refine x_bipush (v := 7) dX11_feed_59 (by decide) ?_
      refine y_iaload dX11_feed_61 (fxk_128 hx) (vi (j := 7) rfl (by omega) (by decide)) (rI (j := 7) rfl ((congrFun va_up_at _).trans (if_pos rfl : (if 7 = 7 then nI n7 + 1 else _) = nI n7 + 1))) ?_
      refine x_ireturn dX11_feed_62 rfl nb_int ?_
      exact ⟨_, by unfold a_feed; rw [if_pos (b_t c7), if_neg (show ¬ I 128 7 = 100 by rw [e7]; exact c22)]; rw [e7], rfl, by rw [va_up_at]; unfold s_feed; rw [if_pos ⟨b_t c7, show ¬ I 128 7 = 100 by rw [e7]; exact c22⟩, cN_of e7 (by omega), e7], xFrm.rf.up (l1 := [])⟩
    · refine x_bipush (v := (-4)) dX11_feed_25 (by decide) ?_
      refine x_ireturn dX11_feed_27 rfl nb_int ?_
      first | exact ⟨I, by unfold a_feed; grind, rfl, by unfold s_feed; grind, xFrm.rf⟩ | exact ⟨_, by unfold a_feed; grind, rfl, by rw [va_up_at]; unfold s_feed; grind, xFrm.rf.up (l1 := [])⟩
  · refine x_bipush (v := (-2)) dX11_feed_10 (by decide) ?_
    refine x_ireturn dX11_feed_12 rfl nb_int ?_
    first | exact ⟨I, by unfold a_feed; grind, rfl, by unfold s_feed; grind, xFrm.rf⟩ | exact ⟨_, by unfold a_feed; grind, rfl, by rw [va_up_at]; unfold s_feed; grind, xFrm.rf.up (l1 := [])⟩

set_option maxHeartbeats 4000000 in
set_option maxRecDepth 100000 in
theorem r_plan {g : xG} {nx : Nat} {sh : Nat → Nat × Nat} {P : Nat → Nat → Option Nat} {I : Nat → Nat → Int32} (hx : xFx sh P) {x : Int32} (hR : RI (I 128)) : xMet g Y_M_plan 1 0 0 [.ref 127, .int x] (nx, sh, P, I) (fun r σ => ∃ I1 : Nat → Nat → Int32, r = some (.int (a_plan (I 128) x)) ∧ σ = (nx, sh, P, I1) ∧ I1 128 = s_plan (I 128) x ∧ xFrm [128] I I1) := by
  refine xMet.of [some (.ref 127), some (.int x)] (by decide +kernel) (Nat.le_of_ble_eq_true rfl) rfl ?_
  obtain ⟨⟨n0, b0, e0⟩, ⟨n1, b1, e1⟩, ⟨n2, b2, e2⟩, ⟨n3, b3, e3⟩, ⟨n4, b4, e4⟩, ⟨n5, b5, e5⟩, ⟨n6, b6, e6⟩, ⟨n7, b7, e7⟩, ⟨n9, b9, e9⟩⟩ := hR.k
  obtain ⟨s, hs⟩ : ∃ s, s = I 128 := ⟨_, rfl⟩
  refine x_iload_n dX11_plan_0 rfl ?_
  refine x_iconst (v := (-1)) dX11_plan_1 (by decide) ?_
  refine x_icmp_ne (tgt := 14) dX11_plan_2 rfl (fun c2 => ?_) (fun c2 => ?_)
  · refine x_iload_n dX11_plan_14 rfl ?_
    refine x_iconst (v := 0) dX11_plan_15 (by decide) ?_
    refine x_bipush (v := 99) dX11_plan_16 (by decide) ?_
    refine x_callS (k2 := 0) (n2 := 0) dX11_plan_18 LS_M_65 r_in rfl rfl (Nat.le_of_ble_eq_true rfl) (Nat.le_of_ble_eq_true rfl) (Nat.le_of_ble_eq_true rfl) (Nat.le_of_ble_eq_true rfl) ?_
    rintro _ _ ⟨rfl, rfl⟩
    refine x_if_ne (tgt := 27) dX11_plan_21 rfl (fun c21 => ?_) (fun c21 => ?_)
    · refine x_aload_n dX11_plan_27 rfl ?_
      refine y_getr dX11_plan_28 F_M_9 (fxo_127 hx) rfl (fxp_127_1 hx) ?_
      refine x_iconst (v := 5) dX11_plan_31 (by decide) ?_
      refine y_iaload dX11_plan_32 (fxk_128 hx) (vi (j := 5) rfl (by omega) (by decide)) (rI (j := 5) rfl e5) ?_
      refine x_bipush (v := 6) dX11_plan_33 (by decide) ?_
      refine x_icmp_ne (tgt := 41) dX11_plan_35 rfl (fun c35 => ?_) (fun c35 => ?_)
      · refine x_aload_n dX11_plan_41 rfl ?_
        refine y_getr dX11_plan_42 F_M_9 (fxo_127 hx) rfl (fxp_127_1 hx) ?_
        refine x_bipush (v := 95) dX11_plan_45 (by decide) ?_
        refine x_aload_n dX11_plan_47 rfl ?_
        refine y_getr dX11_plan_48 F_M_9 (fxo_127 hx) rfl (fxp_127_1 hx) ?_
        refine x_iconst (v := 5) dX11_plan_51 (by decide) ?_
        refine y_iaload dX11_plan_52 (fxk_128 hx) (vi (j := 5) rfl (by omega) (by decide)) (rI (j := 5) rfl e5) ?_
        refine x_iadd dX11_plan_53 ?_
        refine x_iload_n dX11_plan_54 rfl ?_
        refine y_iastore dX11_plan_55 (fxk_128 hx) (vi (j := (95 + n5)) (nadd (a := 95) (b := n5) rfl rfl) (by omega) (by decide)) (ci (j := (95 + n5)) (nadd (a := 95) (b := n5) rfl rfl) (by omega)) ?_
        rw [xup_va]
        refine x_aload_n dX11_plan_56 rfl ?_
        refine y_getr dX11_plan_57 F_M_9 (fxo_127 hx) rfl (fxp_127_1 hx) ?_
        refine x_iconst (v := 5) dX11_plan_60 (by decide) ?_
        refine x_dup2 dX11_plan_61 rfl rfl ?_
        refine y_iaload dX11_plan_62 (fxk_128 hx) (vi (j := 5) rfl (by omega) (by decide)) (rI (j := 5) rfl ((congrFun va_up_at _).trans ((if_neg (by omega)).trans e5))) ?_
        refine x_iconst (v := 1) dX11_plan_63 (by decide) ?_
        refine x_iadd dX11_plan_64 ?_
        refine y_iastore dX11_plan_65 (fxk_128 hx) (vi (j := 5) rfl (by omega) (by decide)) (ci (j := 5) rfl (by omega)) ?_
        rw [xup_row]
        refine x_aload_n dX11_plan_66 rfl ?_
        refine y_getr dX11_plan_67 F_M_9 (fxo_127 hx) rfl (fxp_127_1 hx) ?_
        refine x_iconst (v := 5) dX11_plan_70 (by decide) ?_
        refine y_iaload dX11_plan_71 (fxk_128 hx) (vi (j := 5) rfl (by omega) (by decide)) (rI (j := 5) rfl ((congrFun va_up_at _).trans (if_pos rfl : (if 5 = 5 then nI n5 + 1 else _) = nI n5 + 1))) ?_
        refine x_ireturn dX11_plan_72 rfl nb_int ?_
        exact ⟨_, by unfold a_plan; rw [if_neg c2, if_pos (b_t c21), if_neg (show ¬ I 128 5 = 6 by rw [e5]; exact c35)]; rw [e5], rfl, by rw [va_up_at]; unfold s_plan; rw [if_neg c2, if_pos ⟨b_t c21, show ¬ I 128 5 = 6 by rw [e5]; exact c35⟩, cN_of e5 (by omega), e5], xFrm.rf.up (l1 := [])⟩
      · refine x_bipush (v := (-4)) dX11_plan_38 (by decide) ?_
        refine x_ireturn dX11_plan_40 rfl nb_int ?_
        first | exact ⟨I, by unfold a_plan; grind, rfl, by unfold s_plan; grind, xFrm.rf⟩ | exact ⟨_, by unfold a_plan; grind, rfl, by rw [va_up_at]; unfold s_plan; grind, xFrm.rf.up (l1 := [])⟩
    · refine x_bipush (v := (-2)) dX11_plan_24 (by decide) ?_
      refine x_ireturn dX11_plan_26 rfl nb_int ?_
      first | exact ⟨I, by unfold a_plan; grind, rfl, by unfold s_plan; grind, xFrm.rf⟩ | exact ⟨_, by unfold a_plan; grind, rfl, by rw [va_up_at]; unfold s_plan; grind, xFrm.rf.up (l1 := [])⟩
  · refine x_aload_n dX11_plan_5 rfl ?_
    refine y_getr dX11_plan_6 F_M_9 (fxo_127 hx) rfl (fxp_127_1 hx) ?_
    refine x_iconst (v := 5) dX11_plan_9 (by decide) ?_
    refine x_iconst (v := 0) dX11_plan_10 (by decide) ?_
    refine y_iastore dX11_plan_11 (fxk_128 hx) (vi (j := 5) rfl (by omega) (by decide)) (ci (j := 5) rfl (by omega)) ?_
    rw [xup_va]
    refine x_iconst (v := 0) dX11_plan_12 (by decide) ?_
    refine x_ireturn dX11_plan_13 rfl nb_int ?_
    exact ⟨_, by unfold a_plan; rw [if_pos c2], rfl, by rw [va_up_at]; unfold s_plan; rw [if_pos c2], xFrm.rf.up (l1 := [])⟩

set_option maxHeartbeats 4000000 in
set_option maxRecDepth 100000 in
theorem r_book {g : xG} {nx : Nat} {sh : Nat → Nat × Nat} {P : Nat → Nat → Option Nat} {I : Nat → Nat → Int32} (hx : xFx sh P) {x v : Int32} (hR : RI (I 128)) : xMet g Y_M_book 2 0 0 [.ref 127, .int x, .int v] (nx, sh, P, I) (fun r σ => ∃ I1 : Nat → Nat → Int32, r = some (.int (a_book (I 128) x v)) ∧ σ = (nx, sh, P, I1) ∧ I1 128 = s_book (I 128) x v ∧ xFrm [128] I I1) := by
  refine xMet.of [some (.ref 127), some (.int x), some (.int v)] (by decide +kernel) (Nat.le_of_ble_eq_true rfl) rfl ?_
  obtain ⟨⟨n0, b0, e0⟩, ⟨n1, b1, e1⟩, ⟨n2, b2, e2⟩, ⟨n3, b3, e3⟩, ⟨n4, b4, e4⟩, ⟨n5, b5, e5⟩, ⟨n6, b6, e6⟩, ⟨n7, b7, e7⟩, ⟨n9, b9, e9⟩⟩ := hR.k
  obtain ⟨s, hs⟩ : ∃ s, s = I 128 := ⟨_, rfl⟩
  refine x_iload_n dX11_book_0 rfl ?_
  refine x_iconst (v := (-1)) dX11_book_1 (by decide) ?_
  refine x_icmp_ne (tgt := 15) dX11_book_2 rfl (fun c2 => ?_) (fun c2 => ?_)
  · refine x_aload_n dX11_book_15 rfl ?_
    refine x_iload_n dX11_book_16 rfl ?_
    refine x_callV (k2 := 0) (n2 := 0) dX11_book_17 LV_M_161 (r_isCoin hx hR.nn0) rfl rfl (fxo_127 hx) rfl (Nat.le_of_ble_eq_true rfl) (Nat.le_of_ble_eq_true rfl) (Nat.le_of_ble_eq_true rfl) (Nat.le_of_ble_eq_true rfl) ?_
    rintro _ _ ⟨rfl, rfl⟩
    refine x_if_ne (tgt := 25) dX11_book_20 rfl (fun c20 => ?_) (fun c20 => ?_)
    · refine x_iload_n dX11_book_25 rfl ?_
      refine x_iconst (v := 1) dX11_book_26 (by decide) ?_
      refine x_bipush (v := 99) dX11_book_27 (by decide) ?_
      refine x_callS (k2 := 0) (n2 := 0) dX11_book_29 LS_M_65 r_in rfl rfl (Nat.le_of_ble_eq_true rfl) (Nat.le_of_ble_eq_true rfl) (Nat.le_of_ble_eq_true rfl) (Nat.le_of_ble_eq_true rfl) ?_
      rintro _ _ ⟨rfl, rfl⟩
      refine x_if_ne (tgt := 38) dX11_book_32 rfl (fun c32 => ?_) (fun c32 => ?_)
      · refine x_aload_n dX11_book_38 rfl ?_
        refine y_getr dX11_book_39 F_M_9 (fxo_127 hx) rfl (fxp_127_1 hx) ?_
        refine x_bipush (v := 6) dX11_book_42 (by decide) ?_
        refine y_iaload dX11_book_44 (fxk_128 hx) (vi (j := 6) rfl (by omega) (by decide)) (rI (j := 6) rfl e6) ?_
        refine x_bipush (v := 8) dX11_book_45 (by decide) ?_
        refine x_icmp_ne (tgt := 53) dX11_book_47 rfl (fun c47 => ?_) (fun c47 => ?_)
        · refine x_aload_n dX11_book_53 rfl ?_
          refine y_getr dX11_book_54 F_M_9 (fxo_127 hx) rfl (fxp_127_1 hx) ?_
          refine x_bipush (v := 101) dX11_book_57 (by decide) ?_
          refine x_aload_n dX11_book_59 rfl ?_
          refine y_getr dX11_book_60 F_M_9 (fxo_127 hx) rfl (fxp_127_1 hx) ?_
          refine x_bipush (v := 6) dX11_book_63 (by decide) ?_
          refine y_iaload dX11_book_65 (fxk_128 hx) (vi (j := 6) rfl (by omega) (by decide)) (rI (j := 6) rfl e6) ?_
          refine x_iadd dX11_book_66 ?_
          refine x_iload_n dX11_book_67 rfl ?_
          refine y_iastore dX11_book_68 (fxk_128 hx) (vi (j := (101 + n6)) (nadd (a := 101) (b := n6) rfl rfl) (by omega) (by decide)) (ci (j := (101 + n6)) (nadd (a := 101) (b := n6) rfl rfl) (by omega)) ?_
          rw [xup_va]
          refine x_aload_n dX11_book_69 rfl ?_
          refine y_getr dX11_book_70 F_M_9 (fxo_127 hx) rfl (fxp_127_1 hx) ?_
          refine x_bipush (v := 109) dX11_book_73 (by decide) ?_
          refine x_aload_n dX11_book_75 rfl ?_
          refine y_getr dX11_book_76 F_M_9 (fxo_127 hx) rfl (fxp_127_1 hx) ?_
          refine x_bipush (v := 6) dX11_book_79 (by decide) ?_
          refine y_iaload dX11_book_81 (fxk_128 hx) (vi (j := 6) rfl (by omega) (by decide)) (rI (j := 6) rfl ((congrFun va_up_at _).trans ((if_neg (by omega)).trans e6))) ?_
          refine x_iadd dX11_book_82 ?_
          refine x_iload_n dX11_book_83 rfl ?_
          refine y_iastore dX11_book_84 (fxk_128 hx) (vi (j := (109 + n6)) (nadd (a := 109) (b := n6) rfl rfl) (by omega) (by decide)) (ci (j := (109 + n6)) (nadd (a := 109) (b := n6) rfl rfl) (by omega)) ?_
          rw [xup_row]
          refine x_aload_n dX11_book_85 rfl ?_
          refine y_getr dX11_book_86 F_M_9 (fxo_127 hx) rfl (fxp_127_1 hx) ?_
          refine x_bipush (v := 6) dX11_book_89 (by decide) ?_
          refine x_dup2 dX11_book_91 rfl rfl ?_
          refine y_iaload dX11_book_92 (fxk_128 hx) (vi (j := 6) rfl (by omega) (by decide)) (rI (j := 6) rfl ((congrFun va_up_at _).trans ((if_neg (by omega)).trans ((if_neg (by omega)).trans e6)))) ?_
          refine x_iconst (v := 1) dX11_book_93 (by decide) ?_
          refine x_iadd dX11_book_94 ?_
          refine y_iastore dX11_book_95 (fxk_128 hx) (vi (j := 6) rfl (by omega) (by decide)) (ci (j := 6) rfl (by omega)) ?_
          rw [xup_row]
          refine x_aload_n dX11_book_96 rfl ?_
          refine y_getr dX11_book_97 F_M_9 (fxo_127 hx) rfl (fxp_127_1 hx) ?_
          refine x_bipush (v := 6) dX11_book_100 (by decide) ?_
          refine y_iaload dX11_book_102 (fxk_128 hx) (vi (j := 6) rfl (by omega) (by decide)) (rI (j := 6) rfl ((congrFun va_up_at _).trans (if_pos rfl : (if 6 = 6 then nI n6 + 1 else _) = nI n6 + 1))) ?_
          refine x_ireturn dX11_book_103 rfl nb_int ?_
          exact ⟨_, by unfold a_book; rw [if_neg c2, if_pos (b_t c20), if_pos (b_t c32), if_neg (show ¬ I 128 6 = 8 by rw [e6]; exact c47)]; rw [e6], rfl, by rw [va_up_at]; unfold s_book; rw [if_neg c2, if_pos ⟨b_t c20, b_t c32, show ¬ I 128 6 = 8 by rw [e6]; exact c47⟩, cN_of e6 (by omega), e6], xFrm.rf.up (l1 := [])⟩
        · refine x_bipush (v := (-4)) dX11_book_50 (by decide) ?_
          refine x_ireturn dX11_book_52 rfl nb_int ?_
          first | exact ⟨I, by unfold a_book; grind, rfl, by unfold s_book; grind, xFrm.rf⟩ | exact ⟨_, by unfold a_book; grind, rfl, by rw [va_up_at]; unfold s_book; grind, xFrm.rf.up (l1 := [])⟩
      · refine x_bipush (v := (-2)) dX11_book_35 (by decide) ?_
        refine x_ireturn dX11_book_37 rfl nb_int ?_
        first | exact ⟨I, by unfold a_book; grind, rfl, by unfold s_book; grind, xFrm.rf⟩ | exact ⟨_, by unfold a_book; grind, rfl, by rw [va_up_at]; unfold s_book; grind, xFrm.rf.up (l1 := [])⟩
    · refine x_iconst (v := (-1)) dX11_book_23 (by decide) ?_
      refine x_ireturn dX11_book_24 rfl nb_int ?_
      first | exact ⟨I, by unfold a_book; grind, rfl, by unfold s_book; grind, xFrm.rf⟩ | exact ⟨_, by unfold a_book; grind, rfl, by rw [va_up_at]; unfold s_book; grind, xFrm.rf.up (l1 := [])⟩
  · refine x_aload_n dX11_book_5 rfl ?_
    refine y_getr dX11_book_6 F_M_9 (fxo_127 hx) rfl (fxp_127_1 hx) ?_
    refine x_bipush (v := 6) dX11_book_9 (by decide) ?_
    refine x_iconst (v := 0) dX11_book_11 (by decide) ?_
    refine y_iastore dX11_book_12 (fxk_128 hx) (vi (j := 6) rfl (by omega) (by decide)) (ci (j := 6) rfl (by omega)) ?_
    rw [xup_va]
    refine x_iconst (v := 0) dX11_book_13 (by decide) ?_
    refine x_ireturn dX11_book_14 rfl nb_int ?_
    exact ⟨_, by unfold a_book; rw [if_pos c2], rfl, by rw [va_up_at]; unfold s_book; rw [if_pos c2], xFrm.rf.up (l1 := [])⟩

set_option maxHeartbeats 4000000 in
set_option maxRecDepth 100000 in
theorem r_slate {g : xG} {nx : Nat} {sh : Nat → Nat × Nat} {P : Nat → Nat → Option Nat} {I : Nat → Nat → Int32} (hx : xFx sh P) {x z v : Int32} (hR : RI (I 128)) : xMet g Y_M_slate 1 0 0 [.ref 127, .int x, .int z, .int v] (nx, sh, P, I) (fun r σ => ∃ I1 : Nat → Nat → Int32, r = some (.int (a_slate (I 128) x z v)) ∧ σ = (nx, sh, P, I1) ∧ I1 128 = s_slate (I 128) x z v ∧ xFrm [128] I I1) := by
  refine xMet.of [some (.ref 127), some (.int x), some (.int z), some (.int v)] (by decide +kernel) (Nat.le_of_ble_eq_true rfl) rfl ?_
  obtain ⟨⟨n0, b0, e0⟩, ⟨n1, b1, e1⟩, ⟨n2, b2, e2⟩, ⟨n3, b3, e3⟩, ⟨n4, b4, e4⟩, ⟨n5, b5, e5⟩, ⟨n6, b6, e6⟩, ⟨n7, b7, e7⟩, ⟨n9, b9, e9⟩⟩ := hR.k
  obtain ⟨s, hs⟩ : ∃ s, s = I 128 := ⟨_, rfl⟩
  refine x_iload_n dX11_slate_0 rfl ?_
  refine x_iconst (v := (-1)) dX11_slate_1 (by decide) ?_
  refine x_icmp_ne (tgt := 14) dX11_slate_2 rfl (fun c2 => ?_) (fun c2 => ?_)
  · refine x_iload_n dX11_slate_14 rfl ?_
    refine x_iconst (v := 0) dX11_slate_15 (by decide) ?_
    refine x_bipush (v := 19) dX11_slate_16 (by decide) ?_
    refine x_callS (k2 := 0) (n2 := 0) dX11_slate_18 LS_M_65 r_in rfl rfl (Nat.le_of_ble_eq_true rfl) (Nat.le_of_ble_eq_true rfl) (Nat.le_of_ble_eq_true rfl) (Nat.le_of_ble_eq_true rfl) ?_
    rintro _ _ ⟨rfl, rfl⟩
    refine x_if_eq (tgt := 45) dX11_slate_21 rfl (fun c21 => ?_) (fun c21 => ?_)
    · refine x_bipush (v := (-2)) dX11_slate_45 (by decide) ?_
      refine x_ireturn dX11_slate_47 rfl nb_int ?_
      first | exact ⟨I, by unfold a_slate; grind, rfl, by unfold s_slate; grind, xFrm.rf⟩ | exact ⟨_, by unfold a_slate; grind, rfl, by rw [va_up_at]; unfold s_slate; grind, xFrm.rf.up (l1 := [])⟩
    · refine x_iload_n dX11_slate_24 rfl ?_
      refine x_iconst (v := 0) dX11_slate_25 (by decide) ?_
      refine x_bipush (v := 19) dX11_slate_26 (by decide) ?_
      refine x_callS (k2 := 0) (n2 := 0) dX11_slate_28 LS_M_65 r_in rfl rfl (Nat.le_of_ble_eq_true rfl) (Nat.le_of_ble_eq_true rfl) (Nat.le_of_ble_eq_true rfl) (Nat.le_of_ble_eq_true rfl) ?_
      rintro _ _ ⟨rfl, rfl⟩
      refine x_if_eq (tgt := 45) dX11_slate_31 rfl (fun c31 => ?_) (fun c31 => ?_)
      · refine x_bipush (v := (-2)) dX11_slate_45 (by decide) ?_
        refine x_ireturn dX11_slate_47 rfl nb_int ?_
        first | exact ⟨I, by unfold a_slate; grind, rfl, by unfold s_slate; grind, xFrm.rf⟩ | exact ⟨_, by unfold a_slate; grind, rfl, by rw [va_up_at]; unfold s_slate; grind, xFrm.rf.up (l1 := [])⟩
      · refine x_iload_n dX11_slate_34 rfl ?_
        refine x_iconst (v := 0) dX11_slate_35 (by decide) ?_
        refine x_sipush (v := 399) dX11_slate_36 (by decide) ?_
        refine x_callS (k2 := 0) (n2 := 0) dX11_slate_39 LS_M_65 r_in rfl rfl (Nat.le_of_ble_eq_true rfl) (Nat.le_of_ble_eq_true rfl) (Nat.le_of_ble_eq_true rfl) (Nat.le_of_ble_eq_true rfl) ?_
        rintro _ _ ⟨rfl, rfl⟩
        refine x_if_ne (tgt := 48) dX11_slate_42 rfl (fun c42 => ?_) (fun c42 => ?_)
        · refine x_aload_n dX11_slate_48 rfl ?_
          refine y_getr dX11_slate_49 F_M_9 (fxo_127 hx) rfl (fxp_127_1 hx) ?_
          refine x_iconst (v := 4) dX11_slate_52 (by decide) ?_
          refine y_iaload dX11_slate_53 (fxk_128 hx) (vi (j := 4) rfl (by omega) (by decide)) (rI (j := 4) rfl e4) ?_
          refine x_bipush (v := 6) dX11_slate_54 (by decide) ?_
          refine x_icmp_ne (tgt := 62) dX11_slate_56 rfl (fun c56 => ?_) (fun c56 => ?_)
          · refine x_aload_n dX11_slate_62 rfl ?_
            refine y_getr dX11_slate_63 F_M_9 (fxo_127 hx) rfl (fxp_127_1 hx) ?_
            refine x_bipush (v := 77) dX11_slate_66 (by decide) ?_
            refine x_aload_n dX11_slate_68 rfl ?_
            refine y_getr dX11_slate_69 F_M_9 (fxo_127 hx) rfl (fxp_127_1 hx) ?_
            refine x_iconst (v := 4) dX11_slate_72 (by decide) ?_
            refine y_iaload dX11_slate_73 (fxk_128 hx) (vi (j := 4) rfl (by omega) (by decide)) (rI (j := 4) rfl e4) ?_
            refine x_iadd dX11_slate_74 ?_
            refine x_iload_n dX11_slate_75 rfl ?_
            refine y_iastore dX11_slate_76 (fxk_128 hx) (vi (j := (77 + n4)) (nadd (a := 77) (b := n4) rfl rfl) (by omega) (by decide)) (ci (j := (77 + n4)) (nadd (a := 77) (b := n4) rfl rfl) (by omega)) ?_
            rw [xup_va]
            refine x_aload_n dX11_slate_77 rfl ?_
            refine y_getr dX11_slate_78 F_M_9 (fxo_127 hx) rfl (fxp_127_1 hx) ?_
            refine x_bipush (v := 83) dX11_slate_81 (by decide) ?_
            refine x_aload_n dX11_slate_83 rfl ?_
            refine y_getr dX11_slate_84 F_M_9 (fxo_127 hx) rfl (fxp_127_1 hx) ?_
            refine x_iconst (v := 4) dX11_slate_87 (by decide) ?_
            refine y_iaload dX11_slate_88 (fxk_128 hx) (vi (j := 4) rfl (by omega) (by decide)) (rI (j := 4) rfl ((congrFun va_up_at _).trans ((if_neg (by omega)).trans e4))) ?_
            refine x_iadd dX11_slate_89 ?_
            refine x_iload_n dX11_slate_90 rfl ?_
            refine y_iastore dX11_slate_91 (fxk_128 hx) (vi (j := (83 + n4)) (nadd (a := 83) (b := n4) rfl rfl) (by omega) (by decide)) (ci (j := (83 + n4)) (nadd (a := 83) (b := n4) rfl rfl) (by omega)) ?_
            rw [xup_row]
            refine x_aload_n dX11_slate_92 rfl ?_
            refine y_getr dX11_slate_93 F_M_9 (fxo_127 hx) rfl (fxp_127_1 hx) ?_
            refine x_bipush (v := 89) dX11_slate_96 (by decide) ?_
            refine x_aload_n dX11_slate_98 rfl ?_
            refine y_getr dX11_slate_99 F_M_9 (fxo_127 hx) rfl (fxp_127_1 hx) ?_
            refine x_iconst (v := 4) dX11_slate_102 (by decide) ?_
            refine y_iaload dX11_slate_103 (fxk_128 hx) (vi (j := 4) rfl (by omega) (by decide)) (rI (j := 4) rfl ((congrFun va_up_at _).trans ((if_neg (by omega)).trans ((if_neg (by omega)).trans e4)))) ?_
            refine x_iadd dX11_slate_104 ?_
            refine x_iload_n dX11_slate_105 rfl ?_
            refine y_iastore dX11_slate_106 (fxk_128 hx) (vi (j := (89 + n4)) (nadd (a := 89) (b := n4) rfl rfl) (by omega) (by decide)) (ci (j := (89 + n4)) (nadd (a := 89) (b := n4) rfl rfl) (by omega)) ?_
            rw [xup_row]
            refine x_aload_n dX11_slate_107 rfl ?_
            refine y_getr dX11_slate_108 F_M_9 (fxo_127 hx) rfl (fxp_127_1 hx) ?_
            refine x_iconst (v := 4) dX11_slate_111 (by decide) ?_
            refine x_dup2 dX11_slate_112 rfl rfl ?_
            refine y_iaload dX11_slate_113 (fxk_128 hx) (vi (j := 4) rfl (by omega) (by decide)) (rI (j := 4) rfl ((congrFun va_up_at _).trans ((if_neg (by omega)).trans ((if_neg (by omega)).trans ((if_neg (by omega)).trans e4))))) ?_
            refine x_iconst (v := 1) dX11_slate_114 (by decide) ?_
            refine x_iadd dX11_slate_115 ?_
            refine y_iastore dX11_slate_116 (fxk_128 hx) (vi (j := 4) rfl (by omega) (by decide)) (ci (j := 4) rfl (by omega)) ?_
            rw [xup_row]
            refine x_aload_n dX11_slate_117 rfl ?_
            refine y_getr dX11_slate_118 F_M_9 (fxo_127 hx) rfl (fxp_127_1 hx) ?_
            refine x_iconst (v := 4) dX11_slate_121 (by decide) ?_
            refine y_iaload dX11_slate_122 (fxk_128 hx) (vi (j := 4) rfl (by omega) (by decide)) (rI (j := 4) rfl ((congrFun va_up_at _).trans (if_pos rfl : (if 4 = 4 then nI n4 + 1 else _) = nI n4 + 1))) ?_
            refine x_ireturn dX11_slate_123 rfl nb_int ?_
            exact ⟨_, by unfold a_slate; rw [if_neg c2, if_pos ⟨b_t c21, b_t c31, b_t c42⟩, if_neg (show ¬ I 128 4 = 6 by rw [e4]; exact c56)]; rw [e4], rfl, by rw [va_up_at]; unfold s_slate; rw [if_neg c2, if_pos ⟨⟨b_t c21, b_t c31, b_t c42⟩, show ¬ I 128 4 = 6 by rw [e4]; exact c56⟩, cN_of e4 (by omega), e4], xFrm.rf.up (l1 := [])⟩
          · refine x_bipush (v := (-4)) dX11_slate_59 (by decide) ?_
            refine x_ireturn dX11_slate_61 rfl nb_int ?_
            first | exact ⟨I, by unfold a_slate; grind, rfl, by unfold s_slate; grind, xFrm.rf⟩ | exact ⟨_, by unfold a_slate; grind, rfl, by rw [va_up_at]; unfold s_slate; grind, xFrm.rf.up (l1 := [])⟩
        · refine x_bipush (v := (-2)) dX11_slate_45 (by decide) ?_
          refine x_ireturn dX11_slate_47 rfl nb_int ?_
          first | exact ⟨I, by unfold a_slate; grind, rfl, by unfold s_slate; grind, xFrm.rf⟩ | exact ⟨_, by unfold a_slate; grind, rfl, by rw [va_up_at]; unfold s_slate; grind, xFrm.rf.up (l1 := [])⟩
  · refine x_aload_n dX11_slate_5 rfl ?_
    refine y_getr dX11_slate_6 F_M_9 (fxo_127 hx) rfl (fxp_127_1 hx) ?_
    refine x_iconst (v := 4) dX11_slate_9 (by decide) ?_
    refine x_iconst (v := 0) dX11_slate_10 (by decide) ?_
    refine y_iastore dX11_slate_11 (fxk_128 hx) (vi (j := 4) rfl (by omega) (by decide)) (ci (j := 4) rfl (by omega)) ?_
    rw [xup_va]
    refine x_iconst (v := 0) dX11_slate_12 (by decide) ?_
    refine x_ireturn dX11_slate_13 rfl nb_int ?_
    exact ⟨_, by unfold a_slate; rw [if_pos c2], rfl, by rw [va_up_at]; unfold s_slate; rw [if_pos c2], xFrm.rf.up (l1 := [])⟩

set_option maxHeartbeats 4000000 in
set_option maxRecDepth 100000 in
theorem r_pass {g : xG} {nx : Nat} {sh : Nat → Nat × Nat} {P : Nat → Nat → Option Nat} {I : Nat → Nat → Int32} (hx : xFx sh P) {x : Int32} (hR : RI (I 128)) : xMet g Y_M_pass 1 0 0 [.ref 127, .int x] (nx, sh, P, I) (fun r σ => ∃ I1 : Nat → Nat → Int32, r = some (.int (a_pass (I 128) x)) ∧ σ = (nx, sh, P, I1) ∧ I1 128 = s_pass (I 128) x ∧ xFrm [128] I I1) := by
  refine xMet.of [some (.ref 127), some (.int x)] (by decide +kernel) (Nat.le_of_ble_eq_true rfl) rfl ?_
  obtain ⟨⟨n0, b0, e0⟩, ⟨n1, b1, e1⟩, ⟨n2, b2, e2⟩, ⟨n3, b3, e3⟩, ⟨n4, b4, e4⟩, ⟨n5, b5, e5⟩, ⟨n6, b6, e6⟩, ⟨n7, b7, e7⟩, ⟨n9, b9, e9⟩⟩ := hR.k
  obtain ⟨s, hs⟩ : ∃ s, s = I 128 := ⟨_, rfl⟩
  refine x_iload_n dX11_pass_0 rfl ?_
  refine x_iconst (v := 0) dX11_pass_1 (by decide) ?_
  refine x_bipush (v := 60) dX11_pass_2 (by decide) ?_
  refine x_callS (k2 := 0) (n2 := 0) dX11_pass_4 LS_M_65 r_in rfl rfl (Nat.le_of_ble_eq_true rfl) (Nat.le_of_ble_eq_true rfl) (Nat.le_of_ble_eq_true rfl) (Nat.le_of_ble_eq_true rfl) ?_
  rintro _ _ ⟨rfl, rfl⟩
  refine x_if_ne (tgt := 13) dX11_pass_7 rfl (fun c7 => ?_) (fun c7 => ?_)
  · refine x_aload_n dX11_pass_13 rfl ?_
    refine y_getr dX11_pass_14 F_M_9 (fxo_127 hx) rfl (fxp_127_1 hx) ?_
    refine x_bipush (v := 9) dX11_pass_17 (by decide) ?_
    refine y_iaload dX11_pass_19 (fxk_128 hx) (vi (j := 9) rfl (by omega) (by decide)) (rI (j := 9) rfl rfl) ?_
    refine x_iload_n dX11_pass_20 rfl ?_
    refine x_iadd dX11_pass_21 ?_
    refine x_sipush (v := 9999) dX11_pass_22 (by decide) ?_
    refine x_icmp_le (tgt := 31) dX11_pass_25 rfl (fun c25 => ?_) (fun c25 => ?_)
    · refine x_aload_n dX11_pass_31 rfl ?_
      refine y_getr dX11_pass_32 F_M_9 (fxo_127 hx) rfl (fxp_127_1 hx) ?_
      refine x_bipush (v := 9) dX11_pass_35 (by decide) ?_
      refine x_dup2 dX11_pass_37 rfl rfl ?_
      refine y_iaload dX11_pass_38 (fxk_128 hx) (vi (j := 9) rfl (by omega) (by decide)) (rI (j := 9) rfl rfl) ?_
      refine x_iload_n dX11_pass_39 rfl ?_
      refine x_iadd dX11_pass_40 ?_
      refine y_iastore dX11_pass_41 (fxk_128 hx) (vi (j := 9) rfl (by omega) (by decide)) (ci (j := 9) rfl (by omega)) ?_
      rw [xup_va]
      refine x_aload_n dX11_pass_42 rfl ?_
      refine y_getr dX11_pass_43 F_M_9 (fxo_127 hx) rfl (fxp_127_1 hx) ?_
      refine x_bipush (v := 9) dX11_pass_46 (by decide) ?_
      refine y_iaload dX11_pass_48 (fxk_128 hx) (vi (j := 9) rfl (by omega) (by decide)) (rI (j := 9) rfl ((congrFun va_up_at _).trans (if_pos rfl : (if 9 = 9 then I 128 9 + x else _) = I 128 9 + x))) ?_
      refine x_ireturn dX11_pass_49 rfl nb_int ?_
      exact ⟨_, by unfold a_pass; rw [if_pos (b_t c7), if_neg (Int32.not_lt.mpr c25)], rfl, by rw [va_up_at]; unfold s_pass; rw [if_pos ⟨b_t c7, c25⟩], xFrm.rf.up (l1 := [])⟩
    · refine x_bipush (v := (-3)) dX11_pass_28 (by decide) ?_
      refine x_ireturn dX11_pass_30 rfl nb_int ?_
      first | exact ⟨I, by unfold a_pass; grind, rfl, by unfold s_pass; grind, xFrm.rf⟩ | exact ⟨_, by unfold a_pass; grind, rfl, by rw [va_up_at]; unfold s_pass; grind, xFrm.rf.up (l1 := [])⟩
  · refine x_bipush (v := (-2)) dX11_pass_10 (by decide) ?_
    refine x_ireturn dX11_pass_12 rfl nb_int ?_
    first | exact ⟨I, by unfold a_pass; grind, rfl, by unfold s_pass; grind, xFrm.rf⟩ | exact ⟨_, by unfold a_pass; grind, rfl, by rw [va_up_at]; unfold s_pass; grind, xFrm.rf.up (l1 := [])⟩

set_option maxHeartbeats 4000000 in
set_option maxRecDepth 100000 in
theorem r_row {g : xG} {nx : Nat} {sh : Nat → Nat × Nat} {P : Nat → Nat → Option Nat} {I : Nat → Nat → Int32} (hx : xFx sh P) {c k v : Int32} (hR : RI (I 128)) : xMet g Y_M_row 2 0 0 [.ref 127, .int c, .int k, .int v] (nx, sh, P, I) (fun r σ => ∃ I1 : Nat → Nat → Int32, r = some (.int (a_row (I 128) c k v)) ∧ σ = (nx, sh, P, I1) ∧ I1 128 = s_row (I 128) c k v ∧ xFrm [128] I I1) := by
  refine xMet.of [some (.ref 127), some (.int c), some (.int k), some (.int v), none] (by decide +kernel) (Nat.le_of_ble_eq_true rfl) rfl ?_
  obtain ⟨⟨n0, b0, e0⟩, ⟨n1, b1, e1⟩, ⟨n2, b2, e2⟩, ⟨n3, b3, e3⟩, ⟨n4, b4, e4⟩, ⟨n5, b5, e5⟩, ⟨n6, b6, e6⟩, ⟨n7, b7, e7⟩, ⟨n9, b9, e9⟩⟩ := hR.k
  obtain ⟨s, hs⟩ : ∃ s, s = I 128 := ⟨_, rfl⟩
  refine x_aload_n dX11_row_0 rfl ?_
  refine x_iload_n dX11_row_1 rfl ?_
  refine x_callV (k2 := 0) (n2 := 0) dX11_row_2 LV_M_161 (r_isCoin hx hR.nn0) rfl rfl (fxo_127 hx) rfl (Nat.le_of_ble_eq_true rfl) (Nat.le_of_ble_eq_true rfl) (Nat.le_of_ble_eq_true rfl) (Nat.le_of_ble_eq_true rfl) ?_
  rintro _ _ ⟨rfl, rfl⟩
  refine x_if_eq (tgt := 17) dX11_row_5 rfl (fun c5 => ?_) (fun c5 => ?_)
  · refine x_iconst (v := (-1)) dX11_row_17 (by decide) ?_
    refine x_ireturn dX11_row_18 rfl nb_int ?_
    first | exact ⟨I, by unfold a_row; grind, rfl, by unfold s_row; grind, xFrm.rf⟩ | exact ⟨_, by unfold a_row; grind, rfl, by rw [va_up_at]; unfold s_row; grind, xFrm.rf.up (l1 := [])⟩
  · refine x_iload_n dX11_row_8 rfl ?_
    refine x_iconst (v := 0) dX11_row_9 (by decide) ?_
    refine x_iconst (v := 3) dX11_row_10 (by decide) ?_
    refine x_callS (k2 := 0) (n2 := 0) dX11_row_11 LS_M_65 r_in rfl rfl (Nat.le_of_ble_eq_true rfl) (Nat.le_of_ble_eq_true rfl) (Nat.le_of_ble_eq_true rfl) (Nat.le_of_ble_eq_true rfl) ?_
    rintro _ _ ⟨rfl, rfl⟩
    refine x_if_ne (tgt := 19) dX11_row_14 rfl (fun c14 => ?_) (fun c14 => ?_)
    · obtain ⟨q, hq, rfl⟩ := i_2 (n := n0) (by omega) (by rw [← e0]; exact b_t c5)
      obtain ⟨z, hz, rfl⟩ := i_2 (i := k) (n := 4) (by decide) (by have := b_t c14; exact ⟨this.1, by have h2 := this.2; show k < 4; grind⟩)
      refine x_iload_n dX11_row_19 rfl ?_
      refine x_iconst (v := 0) dX11_row_20 (by decide) ?_
      refine x_bipush (v := 9) dX11_row_21 (by decide) ?_
      refine x_callS (k2 := 0) (n2 := 0) dX11_row_23 LS_M_65 r_in rfl rfl (Nat.le_of_ble_eq_true rfl) (Nat.le_of_ble_eq_true rfl) (Nat.le_of_ble_eq_true rfl) (Nat.le_of_ble_eq_true rfl) ?_
      rintro _ _ ⟨rfl, rfl⟩
      refine x_if_ne (tgt := 32) dX11_row_26 rfl (fun c26 => ?_) (fun c26 => ?_)
      · refine x_aload_n dX11_row_32 rfl ?_
        refine y_getr dX11_row_33 F_M_9 (fxo_127 hx) rfl (fxp_127_1 hx) ?_
        refine x_bipush (v := 10) dX11_row_36 (by decide) ?_
        refine x_iload_n dX11_row_38 rfl ?_
        refine x_iadd dX11_row_39 ?_
        refine y_iaload dX11_row_40 (fxk_128 hx) (vi (j := (10 + q)) (nadd (a := 10) (b := q) rfl rfl) (by omega) (by decide)) (rI (j := (10 + q)) (ci (nadd (a := 10) (b := q) rfl rfl) (by omega)) rfl) ?_
        refine x_bipush (v := 6) dX11_row_41 (by decide) ?_
        refine x_icmp_eq (tgt := 49) dX11_row_43 rfl (fun c43 => ?_) (fun c43 => ?_)
        · skip
          refine x_aload_n dX11_row_49 rfl ?_
          refine y_getr dX11_row_50 F_M_9 (fxo_127 hx) rfl (fxp_127_1 hx) ?_
          refine x_bipush (v := 26) dX11_row_53 (by decide) ?_
          refine x_iconst (v := 4) dX11_row_55 (by decide) ?_
          refine x_iload_n dX11_row_56 rfl ?_
          refine x_imul dX11_row_57 ?_
          refine x_iadd dX11_row_58 ?_
          refine x_iload_n dX11_row_59 rfl ?_
          refine x_iadd dX11_row_60 ?_
          refine y_iaload dX11_row_61 (fxk_128 hx) (vi (j := ((26 + (4 * q)) + z)) (nadd (a := (26 + (4 * q))) (b := z) (nadd (a := 26) (b := (4 * q)) rfl (nmul (a := 4) (b := q) rfl rfl)) rfl) (by omega) (by decide)) (rI (j := ((26 + (4 * q)) + z)) (ci (nadd (a := (26 + (4 * q))) (b := z) (nadd (a := 26) (b := (4 * q)) rfl (nmul (a := 4) (b := q) rfl rfl)) rfl) (by omega)) rfl) ?_
          refine x_istore dX11_row_62 (Nat.le_of_ble_eq_true rfl) ?_
          try simp only [xst, xst2, xclr, xset, xwide]
          refine x_aload_n dX11_row_64 rfl ?_
          refine y_getr dX11_row_65 F_M_9 (fxo_127 hx) rfl (fxp_127_1 hx) ?_
          refine x_bipush (v := 26) dX11_row_68 (by decide) ?_
          refine x_iconst (v := 4) dX11_row_70 (by decide) ?_
          refine x_iload_n dX11_row_71 rfl ?_
          refine x_imul dX11_row_72 ?_
          refine x_iadd dX11_row_73 ?_
          refine x_iload_n dX11_row_74 rfl ?_
          refine x_iadd dX11_row_75 ?_
          refine x_iload_n dX11_row_76 rfl ?_
          refine y_iastore dX11_row_77 (fxk_128 hx) (vi (j := ((26 + (4 * q)) + z)) (nadd (a := (26 + (4 * q))) (b := z) (nadd (a := 26) (b := (4 * q)) rfl (nmul (a := 4) (b := q) rfl rfl)) rfl) (by omega) (by decide)) (ci (j := ((26 + (4 * q)) + z)) (nadd (a := (26 + (4 * q))) (b := z) (nadd (a := 26) (b := (4 * q)) rfl (nmul (a := 4) (b := q) rfl rfl)) rfl) (by omega)) ?_
          rw [xup_va]
          refine x_iload dX11_row_78 rfl ?_
          refine x_ireturn dX11_row_80 rfl nb_int ?_
          exact ⟨_, by unfold a_row; rw [if_pos ⟨b_t c5, b_t c14⟩, if_pos (b_t c26), nI_clamp (by omega), nI_clamp (by omega), if_pos c43], rfl, by rw [va_up_at]; unfold s_row; rw [if_pos ⟨⟨b_t c5, b_t c14⟩, b_t c26, by rw [nI_clamp (by omega)]; exact c43⟩, nI_clamp (by omega), nI_clamp (by omega)], xFrm.rf.up (l1 := [])⟩
        · skip
          refine x_bipush (v := (-3)) dX11_row_46 (by decide) ?_
          refine x_ireturn dX11_row_48 rfl nb_int ?_
          exact ⟨I, by unfold a_row; rw [if_pos ⟨b_t c5, b_t c14⟩, if_pos (b_t c26), nI_clamp (by omega), if_neg c43], rfl, by unfold s_row; rw [if_neg (fun h => c43 (by have := h.2.2; rw [nI_clamp (by omega)] at this; exact this))], xFrm.rf⟩
      · refine x_bipush (v := (-2)) dX11_row_29 (by decide) ?_
        refine x_ireturn dX11_row_31 rfl nb_int ?_
        first | exact ⟨I, by unfold a_row; grind, rfl, by unfold s_row; grind, xFrm.rf⟩ | exact ⟨_, by unfold a_row; grind, rfl, by rw [va_up_at]; unfold s_row; grind, xFrm.rf.up (l1 := [])⟩
    · refine x_iconst (v := (-1)) dX11_row_17 (by decide) ?_
      refine x_ireturn dX11_row_18 rfl nb_int ?_
      first | exact ⟨I, by unfold a_row; grind, rfl, by unfold s_row; grind, xFrm.rf⟩ | exact ⟨_, by unfold a_row; grind, rfl, by rw [va_up_at]; unfold s_row; grind, xFrm.rf.up (l1 := [])⟩

set_option maxHeartbeats 4000000 in
set_option maxRecDepth 100000 in
theorem r_set {g : xG} {nx : Nat} {sh : Nat → Nat × Nat} {P : Nat → Nat → Option Nat} {I : Nat → Nat → Int32} (hx : xFx sh P) {c w v : Int32} (hR : RI (I 128)) : xMet g Y_M_set 2 0 0 [.ref 127, .int c, .int w, .int v] (nx, sh, P, I) (fun r σ => ∃ I1 : Nat → Nat → Int32, r = some (.int (a_set (I 128) c w v)) ∧ σ = (nx, sh, P, I1) ∧ I1 128 = s_set (I 128) c w v ∧ xFrm [128] I I1) := by
  refine xMet.of [some (.ref 127), some (.int c), some (.int w), some (.int v), none, none] (by decide +kernel) (Nat.le_of_ble_eq_true rfl) rfl ?_
  obtain ⟨⟨n0, b0, e0⟩, ⟨n1, b1, e1⟩, ⟨n2, b2, e2⟩, ⟨n3, b3, e3⟩, ⟨n4, b4, e4⟩, ⟨n5, b5, e5⟩, ⟨n6, b6, e6⟩, ⟨n7, b7, e7⟩, ⟨n9, b9, e9⟩⟩ := hR.k
  obtain ⟨s, hs⟩ : ∃ s, s = I 128 := ⟨_, rfl⟩
  refine x_aload_n dX11_set_0 rfl ?_
  refine x_iload_n dX11_set_1 rfl ?_
  refine x_callV (k2 := 0) (n2 := 0) dX11_set_2 LV_M_161 (r_isCoin hx hR.nn0) rfl rfl (fxo_127 hx) rfl (Nat.le_of_ble_eq_true rfl) (Nat.le_of_ble_eq_true rfl) (Nat.le_of_ble_eq_true rfl) (Nat.le_of_ble_eq_true rfl) ?_
  rintro _ _ ⟨rfl, rfl⟩
  refine x_if_eq (tgt := 17) dX11_set_5 rfl (fun c5 => ?_) (fun c5 => ?_)
  · refine x_iconst (v := (-1)) dX11_set_17 (by decide) ?_
    refine x_ireturn dX11_set_18 rfl nb_int ?_
    first | exact ⟨I, by unfold a_set; grind, rfl, by unfold s_set; grind, xFrm.rf⟩ | exact ⟨_, by unfold a_set; grind, rfl, by rw [va_up_at]; unfold s_set; grind, xFrm.rf.up (l1 := [])⟩
  · refine x_iload_n dX11_set_8 rfl ?_
    refine x_iconst (v := 0) dX11_set_9 (by decide) ?_
    refine x_iconst (v := 1) dX11_set_10 (by decide) ?_
    refine x_callS (k2 := 0) (n2 := 0) dX11_set_11 LS_M_65 r_in rfl rfl (Nat.le_of_ble_eq_true rfl) (Nat.le_of_ble_eq_true rfl) (Nat.le_of_ble_eq_true rfl) (Nat.le_of_ble_eq_true rfl) ?_
    rintro _ _ ⟨rfl, rfl⟩
    refine x_if_ne (tgt := 19) dX11_set_14 rfl (fun c14 => ?_) (fun c14 => ?_)
    · refine x_iload_n dX11_set_19 rfl ?_
      refine x_iconst (v := 1) dX11_set_20 (by decide) ?_
      refine x_iload_n dX11_set_21 rfl ?_
      refine x_isub dX11_set_22 ?_
      refine x_bipush (v := 9) dX11_set_23 (by decide) ?_
      refine x_callS (k2 := 0) (n2 := 0) dX11_set_25 LS_M_65 r_in rfl rfl (Nat.le_of_ble_eq_true rfl) (Nat.le_of_ble_eq_true rfl) (Nat.le_of_ble_eq_true rfl) (Nat.le_of_ble_eq_true rfl) ?_
      rintro _ _ ⟨rfl, rfl⟩
      refine x_if_ne (tgt := 34) dX11_set_28 rfl (fun c28 => ?_) (fun c28 => ?_)
      · obtain ⟨q, hq, rfl⟩ := i_2 (n := n0) (by omega) (by rw [← e0]; exact b_t c5)
        refine x_iload_n dX11_set_34 rfl ?_
        refine x_if_ne (tgt := 45) dX11_set_35 rfl (fun c35 => ?_) (fun c35 => ?_)
        · have hw : ¬ w = 0 := c35
          refine x_bipush (v := 22) dX11_set_45 (by decide) ?_
          refine x_iload_n dX11_set_47 rfl ?_
          refine x_iadd dX11_set_48 ?_
          refine x_istore dX11_set_49 (Nat.le_of_ble_eq_true rfl) ?_
          try simp only [xst, xst2, xclr, xset, xwide]
          refine x_aload_n dX11_set_51 rfl ?_
          refine y_getr dX11_set_52 F_M_9 (fxo_127 hx) rfl (fxp_127_1 hx) ?_
          refine x_iload dX11_set_55 rfl ?_
          refine y_iaload dX11_set_57 (fxk_128 hx) (by first | exact vi (nadd (a := 18) (b := q) rfl rfl) (by omega) (by decide) | exact vi (nadd (a := 22) (b := q) rfl rfl) (by omega) (by decide)) rfl ?_
          refine x_istore dX11_set_58 (Nat.le_of_ble_eq_true rfl) ?_
          try simp only [xst, xst2, xclr, xset, xwide]
          refine x_aload_n dX11_set_60 rfl ?_
          refine y_getr dX11_set_61 F_M_9 (fxo_127 hx) rfl (fxp_127_1 hx) ?_
          refine x_iload dX11_set_64 rfl ?_
          refine x_iload_n dX11_set_66 rfl ?_
          refine y_iastore dX11_set_67 (fxk_128 hx) (by first | exact vi (nadd (a := 18) (b := q) rfl rfl) (by omega) (by decide) | exact vi (nadd (a := 22) (b := q) rfl rfl) (by omega) (by decide)) rfl ?_
          rw [xup_va]
          refine x_iload dX11_set_68 rfl ?_
          have z18 : ((18 : Int32) + nI q).toNatClampNeg = 18 + q := ci (nadd (a := 18) (b := q) rfl rfl) (by omega)
          have z22 : ((22 : Int32) + nI q).toNatClampNeg = 22 + q := ci (nadd (a := 22) (b := q) rfl rfl) (by omega)
          simp only [z18, z22]
          refine x_ireturn dX11_set_70 rfl nb_int ?_
          first | exact ⟨_, by unfold a_set; rw [if_pos ⟨b_t c5, b_t c14⟩, if_pos (b_t c28), nI_clamp (by omega), if_pos hw], rfl, by rw [va_up_at]; unfold s_set; rw [if_pos ⟨⟨b_t c5, b_t c14⟩, b_t c28⟩, nI_clamp (by omega), if_pos hw], xFrm.rf.up (l1 := [])⟩ | exact ⟨_, by unfold a_set; rw [if_pos ⟨b_t c5, b_t c14⟩, if_pos (b_t c28), nI_clamp (by omega), if_neg hw], rfl, by rw [va_up_at]; unfold s_set; rw [if_pos ⟨⟨b_t c5, b_t c14⟩, b_t c28⟩, nI_clamp (by omega), if_neg hw], xFrm.rf.up (l1 := [])⟩
        · have hw : w = 0 := c35
          refine x_bipush (v := 18) dX11_set_38 (by decide) ?_
          refine x_iload_n dX11_set_40 rfl ?_
          refine x_iadd dX11_set_41 ?_
          refine x_goto (tgt := 49) dX11_set_42 rfl ?_
          refine x_istore dX11_set_49 (Nat.le_of_ble_eq_true rfl) ?_
          try simp only [xst, xst2, xclr, xset, xwide]
          refine x_aload_n dX11_set_51 rfl ?_
          refine y_getr dX11_set_52 F_M_9 (fxo_127 hx) rfl (fxp_127_1 hx) ?_
          refine x_iload dX11_set_55 rfl ?_
          refine y_iaload dX11_set_57 (fxk_128 hx) (by first | exact vi (nadd (a := 18) (b := q) rfl rfl) (by omega) (by decide) | exact vi (nadd (a := 22) (b := q) rfl rfl) (by omega) (by decide)) rfl ?_
          refine x_istore dX11_set_58 (Nat.le_of_ble_eq_true rfl) ?_
          try simp only [xst, xst2, xclr, xset, xwide]
          refine x_aload_n dX11_set_60 rfl ?_
          refine y_getr dX11_set_61 F_M_9 (fxo_127 hx) rfl (fxp_127_1 hx) ?_
          refine x_iload dX11_set_64 rfl ?_
          refine x_iload_n dX11_set_66 rfl ?_
          refine y_iastore dX11_set_67 (fxk_128 hx) (by first | exact vi (nadd (a := 18) (b := q) rfl rfl) (by omega) (by decide) | exact vi (nadd (a := 22) (b := q) rfl rfl) (by omega) (by decide)) rfl ?_
          rw [xup_va]
          refine x_iload dX11_set_68 rfl ?_
          have z18 : ((18 : Int32) + nI q).toNatClampNeg = 18 + q := ci (nadd (a := 18) (b := q) rfl rfl) (by omega)
          have z22 : ((22 : Int32) + nI q).toNatClampNeg = 22 + q := ci (nadd (a := 22) (b := q) rfl rfl) (by omega)
          simp only [z18, z22]
          refine x_ireturn dX11_set_70 rfl nb_int ?_
          first | exact ⟨_, by unfold a_set; rw [if_pos ⟨b_t c5, b_t c14⟩, if_pos (b_t c28), nI_clamp (by omega), if_pos hw], rfl, by rw [va_up_at]; unfold s_set; rw [if_pos ⟨⟨b_t c5, b_t c14⟩, b_t c28⟩, nI_clamp (by omega), if_pos hw], xFrm.rf.up (l1 := [])⟩ | exact ⟨_, by unfold a_set; rw [if_pos ⟨b_t c5, b_t c14⟩, if_pos (b_t c28), nI_clamp (by omega), if_neg hw], rfl, by rw [va_up_at]; unfold s_set; rw [if_pos ⟨⟨b_t c5, b_t c14⟩, b_t c28⟩, nI_clamp (by omega), if_neg hw], xFrm.rf.up (l1 := [])⟩
      · refine x_bipush (v := (-2)) dX11_set_31 (by decide) ?_
        refine x_ireturn dX11_set_33 rfl nb_int ?_
        first | exact ⟨I, by unfold a_set; grind, rfl, by unfold s_set; grind, xFrm.rf⟩ | exact ⟨_, by unfold a_set; grind, rfl, by rw [va_up_at]; unfold s_set; grind, xFrm.rf.up (l1 := [])⟩
    · refine x_iconst (v := (-1)) dX11_set_17 (by decide) ?_
      refine x_ireturn dX11_set_18 rfl nb_int ?_
      first | exact ⟨I, by unfold a_set; grind, rfl, by unfold s_set; grind, xFrm.rf⟩ | exact ⟨_, by unfold a_set; grind, rfl, by rw [va_up_at]; unfold s_set; grind, xFrm.rf.up (l1 := [])⟩

set_option maxHeartbeats 4000000 in
set_option maxRecDepth 100000 in
theorem r_coin {g : xG} {nx : Nat} {sh : Nat → Nat × Nat} {P : Nat → Nat → Option Nat} {I : Nat → Nat → Int32} (hx : xFx sh P) {k v b p : Int32} (hR : RI (I 128)) : xMet g Y_M_coin 1 0 0 [.ref 127, .int k, .int v, .int b, .int p] (nx, sh, P, I) (fun r σ => ∃ I1 : Nat → Nat → Int32, r = some (.int (a_coin (I 128) k v b p)) ∧ σ = (nx, sh, P, I1) ∧ I1 128 = s_coin (I 128) k v b p ∧ xFrm [128] I I1) := by
  refine xMet.of [some (.ref 127), some (.int k), some (.int v), some (.int b), some (.int p), none, none] (by decide +kernel) (Nat.le_of_ble_eq_true rfl) rfl ?_
  obtain ⟨⟨n0, b0, e0⟩, ⟨n1, b1, e1⟩, ⟨n2, b2, e2⟩, ⟨n3, b3, e3⟩, ⟨n4, b4, e4⟩, ⟨n5, b5, e5⟩, ⟨n6, b6, e6⟩, ⟨n7, b7, e7⟩, ⟨n9, b9, e9⟩⟩ := hR.k
  obtain ⟨s, hs⟩ : ∃ s, s = I 128 := ⟨_, rfl⟩
  refine x_iload_n dX11_coin_0 rfl ?_
  refine x_iconst (v := 0) dX11_coin_1 (by decide) ?_
  refine x_bipush (v := 6) dX11_coin_2 (by decide) ?_
  refine x_callS (k2 := 0) (n2 := 0) dX11_coin_4 LS_M_65 r_in rfl rfl (Nat.le_of_ble_eq_true rfl) (Nat.le_of_ble_eq_true rfl) (Nat.le_of_ble_eq_true rfl) (Nat.le_of_ble_eq_true rfl) ?_
  rintro _ _ ⟨rfl, rfl⟩
  refine x_if_ne (tgt := 12) dX11_coin_7 rfl (fun c7 => ?_) (fun c7 => ?_)
  · refine x_iload_n dX11_coin_12 rfl ?_
    refine x_iconst (v := 0) dX11_coin_13 (by decide) ?_
    refine x_bipush (v := 9) dX11_coin_14 (by decide) ?_
    refine x_callS (k2 := 0) (n2 := 0) dX11_coin_16 LS_M_65 r_in rfl rfl (Nat.le_of_ble_eq_true rfl) (Nat.le_of_ble_eq_true rfl) (Nat.le_of_ble_eq_true rfl) (Nat.le_of_ble_eq_true rfl) ?_
    rintro _ _ ⟨rfl, rfl⟩
    refine x_if_eq (tgt := 43) dX11_coin_19 rfl (fun c19 => ?_) (fun c19 => ?_)
    · refine x_bipush (v := (-2)) dX11_coin_43 (by decide) ?_
      refine x_ireturn dX11_coin_45 rfl nb_int ?_
      first | exact ⟨I, by unfold a_coin; grind, rfl, by unfold s_coin; grind, xFrm.rf⟩ | exact ⟨_, by unfold a_coin; grind, rfl, by rw [va_up_at]; unfold s_coin; grind, xFrm.rf.up (l1 := [])⟩
    · refine x_iload_n dX11_coin_22 rfl ?_
      refine x_iconst (v := 1) dX11_coin_23 (by decide) ?_
      refine x_bipush (v := 9) dX11_coin_24 (by decide) ?_
      refine x_callS (k2 := 0) (n2 := 0) dX11_coin_26 LS_M_65 r_in rfl rfl (Nat.le_of_ble_eq_true rfl) (Nat.le_of_ble_eq_true rfl) (Nat.le_of_ble_eq_true rfl) (Nat.le_of_ble_eq_true rfl) ?_
      rintro _ _ ⟨rfl, rfl⟩
      refine x_if_eq (tgt := 43) dX11_coin_29 rfl (fun c29 => ?_) (fun c29 => ?_)
      · refine x_bipush (v := (-2)) dX11_coin_43 (by decide) ?_
        refine x_ireturn dX11_coin_45 rfl nb_int ?_
        first | exact ⟨I, by unfold a_coin; grind, rfl, by unfold s_coin; grind, xFrm.rf⟩ | exact ⟨_, by unfold a_coin; grind, rfl, by rw [va_up_at]; unfold s_coin; grind, xFrm.rf.up (l1 := [])⟩
      · refine x_iload dX11_coin_32 rfl ?_
        refine x_iconst (v := 0) dX11_coin_34 (by decide) ?_
        refine x_bipush (v := 9) dX11_coin_35 (by decide) ?_
        refine x_callS (k2 := 0) (n2 := 0) dX11_coin_37 LS_M_65 r_in rfl rfl (Nat.le_of_ble_eq_true rfl) (Nat.le_of_ble_eq_true rfl) (Nat.le_of_ble_eq_true rfl) (Nat.le_of_ble_eq_true rfl) ?_
        rintro _ _ ⟨rfl, rfl⟩
        refine x_if_ne (tgt := 46) dX11_coin_40 rfl (fun c40 => ?_) (fun c40 => ?_)
        · refine x_aload_n dX11_coin_46 rfl ?_
          refine y_getr dX11_coin_47 F_M_9 (fxo_127 hx) rfl (fxp_127_1 hx) ?_
          refine x_iconst (v := 0) dX11_coin_50 (by decide) ?_
          refine y_iaload dX11_coin_51 (fxk_128 hx) (vi (j := 0) rfl (by omega) (by decide)) (rI (j := 0) rfl e0) ?_
          refine x_iconst (v := 4) dX11_coin_52 (by decide) ?_
          refine x_icmp_ne (tgt := 59) dX11_coin_53 rfl (fun c53 => ?_) (fun c53 => ?_)
          · refine x_aload_n dX11_coin_59 rfl ?_
            refine y_getr dX11_coin_60 F_M_9 (fxo_127 hx) rfl (fxp_127_1 hx) ?_
            refine x_iconst (v := 0) dX11_coin_63 (by decide) ?_
            refine y_iaload dX11_coin_64 (fxk_128 hx) (vi (j := 0) rfl (by omega) (by decide)) (rI (j := 0) rfl e0) ?_
            have hn4 : n0 < 4 := by
              rcases Nat.lt_or_ge n0 4 with z | z
              · exact z
              · exact absurd (show nI n0 = 4 by rw [show n0 = 4 by omega]; rfl) c53
            refine x_istore dX11_coin_65 (Nat.le_of_ble_eq_true rfl) ?_
            try simp only [xst, xst2, xclr, xset, xwide]
            refine x_aload_n dX11_coin_67 rfl ?_
            refine y_getr dX11_coin_68 F_M_9 (fxo_127 hx) rfl (fxp_127_1 hx) ?_
            refine x_bipush (v := 10) dX11_coin_71 (by decide) ?_
            refine x_iload dX11_coin_73 rfl ?_
            refine x_iadd dX11_coin_75 ?_
            refine x_iload_n dX11_coin_76 rfl ?_
            refine y_iastore dX11_coin_77 (fxk_128 hx) (vi (j := (10 + n0)) (nadd (a := 10) (b := n0) rfl rfl) (by omega) (by decide)) (ci (j := (10 + n0)) (nadd (a := 10) (b := n0) rfl rfl) (by omega)) ?_
            rw [xup_va]
            refine x_aload_n dX11_coin_78 rfl ?_
            refine y_getr dX11_coin_79 F_M_9 (fxo_127 hx) rfl (fxp_127_1 hx) ?_
            refine x_bipush (v := 14) dX11_coin_82 (by decide) ?_
            refine x_iload dX11_coin_84 rfl ?_
            refine x_iadd dX11_coin_86 ?_
            refine x_iload_n dX11_coin_87 rfl ?_
            refine y_iastore dX11_coin_88 (fxk_128 hx) (vi (j := (14 + n0)) (nadd (a := 14) (b := n0) rfl rfl) (by omega) (by decide)) (ci (j := (14 + n0)) (nadd (a := 14) (b := n0) rfl rfl) (by omega)) ?_
            rw [xup_row]
            refine x_aload_n dX11_coin_89 rfl ?_
            refine y_getr dX11_coin_90 F_M_9 (fxo_127 hx) rfl (fxp_127_1 hx) ?_
            refine x_bipush (v := 18) dX11_coin_93 (by decide) ?_
            refine x_iload dX11_coin_95 rfl ?_
            refine x_iadd dX11_coin_97 ?_
            refine x_iload_n dX11_coin_98 rfl ?_
            refine y_iastore dX11_coin_99 (fxk_128 hx) (vi (j := (18 + n0)) (nadd (a := 18) (b := n0) rfl rfl) (by omega) (by decide)) (ci (j := (18 + n0)) (nadd (a := 18) (b := n0) rfl rfl) (by omega)) ?_
            rw [xup_row]
            refine x_aload_n dX11_coin_100 rfl ?_
            refine y_getr dX11_coin_101 F_M_9 (fxo_127 hx) rfl (fxp_127_1 hx) ?_
            refine x_bipush (v := 22) dX11_coin_104 (by decide) ?_
            refine x_iload dX11_coin_106 rfl ?_
            refine x_iadd dX11_coin_108 ?_
            refine x_iload dX11_coin_109 rfl ?_
            refine y_iastore dX11_coin_111 (fxk_128 hx) (vi (j := (22 + n0)) (nadd (a := 22) (b := n0) rfl rfl) (by omega) (by decide)) (ci (j := (22 + n0)) (nadd (a := 22) (b := n0) rfl rfl) (by omega)) ?_
            rw [xup_row]
            obtain ⟨f, hf⟩ : ∃ f, f = upd (upd (upd (upd (I 128) (10 + n0) k) (14 + n0) v) (18 + n0) b) (22 + n0) p := ⟨_, rfl⟩
            rw [← hf]
            have hf0 : f 0 = nI n0 := by rw [hf]; unfold upd; rw [if_neg (by omega), if_neg (by omega), if_neg (by omega), if_neg (by omega)]; exact e0
            refine x_iconst (v := 0) dX11_coin_112 (by decide) ?_
            refine x_istore dX11_coin_113 (Nat.le_of_ble_eq_true rfl) ?_
            try simp only [xst, xst2, xclr, xset, xwide]
            refine y_st (I' := va_up I 128 (xZf f (26 + 4 * n0) 0)) (by rw [xZf_0]) ?_
            have K115 : ∀ (fuel : Nat) (i : Nat) (hi : i ≤ 4), 4 - i < fuel → xX g Y_M_coin 1 0 0 (fun r σ => ∃ I1 : Nat → Nat → Int32, r = some (.int (a_coin (I 128) k v b p)) ∧ σ = (nx, sh, P, I1) ∧ I1 128 = s_coin (I 128) k v b p ∧ xFrm [128] I I1) 115 [some (.ref 127), some (.int k), some (.int v), some (.int b), some (.int p), some (.int (nI n0)), some (.int (nI i))] [] (nx, sh, P, va_up I 128 (xZf f (26 + 4 * n0) i)) := by
              intro fuel
              induction fuel with
              | zero => intro i hi hm; exact absurd hm (Nat.not_lt_zero _)
              | succ fuel ih115 =>
                intro i hi hm
                refine x_iload dX11_coin_115 rfl ?_
                refine x_iconst (v := 4) dX11_coin_117 (by decide) ?_
                refine x_icmp_ge (tgt := 143) dX11_coin_118 rfl (fun c118 => ?_) (fun c118 => ?_)
                · have hie : i = 4 := cge_t (by decide) hi c118
                  subst hie
                  have hz0 : xZf f (26 + 4 * n0) 4 0 = nI n0 := (if_neg (by omega)).trans hf0
                  refine x_aload_n dX11_coin_143 rfl ?_
                  refine y_getr dX11_coin_144 F_M_9 (fxo_127 hx) rfl (fxp_127_1 hx) ?_
                  refine x_iconst (v := 0) dX11_coin_147 (by decide) ?_
                  refine x_dup2 dX11_coin_148 rfl rfl ?_
                  refine y_iaload dX11_coin_149 (fxk_128 hx) (vi (j := 0) rfl (by omega) (by decide)) (rI (j := 0) rfl ((congrFun va_up_at _).trans hz0)) ?_
                  refine x_iconst (v := 1) dX11_coin_150 (by decide) ?_
                  refine x_iadd dX11_coin_151 ?_
                  refine y_iastore dX11_coin_152 (fxk_128 hx) (vi (j := 0) rfl (by omega) (by decide)) (ci (j := 0) rfl (by omega)) ?_
                  rw [xup_row]
                  refine x_iload dX11_coin_153 rfl ?_
                  refine x_ireturn dX11_coin_155 rfl nb_int ?_
                  exact ⟨_, by unfold a_coin; rw [if_pos (b_t c7), if_pos ⟨b_t c19, b_t c29, b_t c40⟩, if_neg (show ¬ I 128 0 = 4 by rw [e0]; exact c53), e0], rfl, by rw [va_up_at]; unfold s_coin; rw [if_pos ⟨b_t c7, ⟨b_t c19, b_t c29, b_t c40⟩, show ¬ I 128 0 = 4 by rw [e0]; exact c53⟩, cN_of e0 (by omega), e0, hf], xFrm.rf.up (l1 := [])⟩
                · have him : i < 4 := cge_f (by decide) hi c118
                  refine x_aload_n dX11_coin_121 rfl ?_
                  refine y_getr dX11_coin_122 F_M_9 (fxo_127 hx) rfl (fxp_127_1 hx) ?_
                  refine x_bipush (v := 26) dX11_coin_125 (by decide) ?_
                  refine x_iconst (v := 4) dX11_coin_127 (by decide) ?_
                  refine x_iload dX11_coin_128 rfl ?_
                  refine x_imul dX11_coin_130 ?_
                  refine x_iadd dX11_coin_131 ?_
                  refine x_iload dX11_coin_132 rfl ?_
                  refine x_iadd dX11_coin_134 ?_
                  refine x_iconst (v := 0) dX11_coin_135 (by decide) ?_
                  refine y_iastore dX11_coin_136 (fxk_128 hx) (vi (j := ((26 + (4 * n0)) + i)) (nadd (a := (26 + (4 * n0))) (b := i) (nadd (a := 26) (b := (4 * n0)) rfl (nmul (a := 4) (b := n0) rfl rfl)) rfl) (by omega) (by decide)) (ci (j := ((26 + (4 * n0)) + i)) (nadd (a := (26 + (4 * n0))) (b := i) (nadd (a := 26) (b := (4 * n0)) rfl (nmul (a := 4) (b := n0) rfl rfl)) rfl) (by omega)) ?_
                  rw [xup_row, xZf_s]
                  refine x_iinc (v := (nI (i + 1))) dX11_coin_137 rfl (nI_1 _) (Nat.le_of_ble_eq_true rfl) ?_
                  try simp only [xst, xst2, xclr, xset, xwide]
                  refine x_goto (tgt := 115) dX11_coin_140 rfl ?_
                  exact ih115 (i + 1) (by omega) (by omega)
            exact K115 _ 0 (by decide) (Nat.lt_succ_self _)
          · refine x_bipush (v := (-4)) dX11_coin_56 (by decide) ?_
            refine x_ireturn dX11_coin_58 rfl nb_int ?_
            first | exact ⟨I, by unfold a_coin; grind, rfl, by unfold s_coin; grind, xFrm.rf⟩ | exact ⟨_, by unfold a_coin; grind, rfl, by rw [va_up_at]; unfold s_coin; grind, xFrm.rf.up (l1 := [])⟩
        · refine x_bipush (v := (-2)) dX11_coin_43 (by decide) ?_
          refine x_ireturn dX11_coin_45 rfl nb_int ?_
          first | exact ⟨I, by unfold a_coin; grind, rfl, by unfold s_coin; grind, xFrm.rf⟩ | exact ⟨_, by unfold a_coin; grind, rfl, by rw [va_up_at]; unfold s_coin; grind, xFrm.rf.up (l1 := [])⟩
  · refine x_iconst (v := (-1)) dX11_coin_10 (by decide) ?_
    refine x_ireturn dX11_coin_11 rfl nb_int ?_
    first | exact ⟨I, by unfold a_coin; grind, rfl, by unfold s_coin; grind, xFrm.rf⟩ | exact ⟨_, by unfold a_coin; grind, rfl, by rw [va_up_at]; unfold s_coin; grind, xFrm.rf.up (l1 := [])⟩
