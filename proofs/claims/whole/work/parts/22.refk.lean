/-! the reference: bought -/
abbrev BS := Int32 × (Nat → Int32)
def bgK (f : Nat → BS → BS) : Nat → BS → BS
  | 0, st => st
  | k + 1, st => f k (bgK f k st)
/-- bags from ware w on, m wares being left -/
def bgL (pr : Nat → Int32) : Nat → Nat → Int32 → Nat → (Nat → Int32) → BS → BS
  | 0, _, left, _, rows, st => if left = 0 then (if st.1 = 0 then (st.1 + 1, rows) else (st.1 + 1, st.2)) else st
  | m + 1, w, left, room, rows, st => bgK (fun j st => if nI (room - j) * pr w ≤ left then bgL pr m (w + 1) (left - nI (room - j) * pr w) (room - (room - j)) (upd rows w (nI (room - j))) st else st) (room + 1) st
def bgF (pr : Nat → Int32) (m w : Nat) (left : Int32) (room : Nat) (rows : Nat → Int32) (j : Nat) (st : BS) : BS := if nI (room - j) * pr w ≤ left then bgL pr m (w + 1) (left - nI (room - j) * pr w) (room - (room - j)) (upd rows w (nI (room - j))) st else st
theorem bgL_s {pr : Nat → Int32} {m w room : Nat} {left : Int32} {rows : Nat → Int32} {st : BS} : bgL pr (m + 1) w left room rows st = bgK (bgF pr m w left room rows) (room + 1) st := rfl
def bgE (a b : BS) : Prop := a.1 = b.1 ∧ (¬ a.1 = 0 → a.2 = b.2)
theorem bgK_E {f g : Nat → BS → BS} (h : ∀ k a b, bgE a b → bgE (f k a) (g k b)) : ∀ k a b, bgE a b → bgE (bgK f k a) (bgK g k b)
  | 0, _, _, e => e
  | k + 1, a, b, e => h k _ _ (bgK_E h k a b e)
theorem bgL_E {pr : Nat → Int32} : ∀ m w left room rows a b, bgE a b → bgE (bgL pr m w left room rows a) (bgL pr m w left room rows b)
  | 0, w, left, room, rows, a, b, e => by
    unfold bgL
    by_cases h1 : left = 0
    · rw [if_pos h1, if_pos h1, ← e.1]
      by_cases h2 : a.1 = 0
      · rw [if_pos h2, if_pos h2]; exact ⟨rfl, fun _ => rfl⟩
      · rw [if_neg h2, if_neg h2]; exact ⟨rfl, fun _ => e.2 h2⟩
    · rw [if_neg h1, if_neg h1]; exact e
  | m + 1, w, left, room, rows, a, b, e => by
    rw [bgL_s, bgL_s]
    refine bgK_E ?_ _ _ _ e
    intro j x y exy
    unfold bgF
    by_cases h : nI (room - j) * pr w ≤ left
    · rw [if_pos h, if_pos h]; exact bgL_E m (w + 1) _ _ _ x y exy
    · rw [if_neg h, if_neg h]; exact exy
def xBGq (nx : Nat) (sh : Nat → Nat × Nat) (P : Nat → Nat → Option Nat) (I : Nat → Nat → Int32) (w nW : Nat) (st : BS) (r : Option Value) (σ : xS) : Prop := ∃ I1 : Nat → Nat → Int32, r = none ∧ σ = (nx, sh, P, I1) ∧ xFrm [127, 141, 142] I I1 ∧ xFd [25] I I1 ∧ (∀ j, j < w → I1 141 j = I 141 j) ∧ I1 127 25 = st.1 ∧ ∀ k, k < nW → I1 142 k = st.2 k
def xBG (g : xG) (m : Nat) : Prop := ∀ (nx : Nat) (sh : Nat → Nat × Nat) (P : Nat → Nat → Option Nat) (I : Nat → Nat → Int32) (w nW room : Nat) (left : Int32) (rows : Nat → Int32) (st : BS) (pr : Nat → Int32), xFx sh P → w + m = nW → nW ≤ 5 → I 128 1 = nI nW → room ≤ 4 → (∀ c, c < nW → I 128 (42 + c) = pr c) → (∀ j, j < w → I 141 j = rows j) → I 127 25 = st.1 → (∀ k, k < nW → I 142 k = st.2 k) →
  xMet g Y_M_bagsFrom m 0 0 [.ref 127, .int (nI w), .int left, .int (nI room)] (nx, sh, P, I) (xBGq nx sh P I w nW (bgL pr m w left room rows st))
theorem nI_dn {r j : Nat} (h : j ≤ r) : nI (r - j) - 1 = nI r - nI (j + 1) := by
  rw [← nI_subN h, ← nI_1]
  generalize nI r = x
  generalize nI j = y
  grind

set_option maxHeartbeats 4000000 in
set_option maxRecDepth 100000 in
theorem r_bagsFrom0 {g : xG} {nx : Nat} {sh : Nat → Nat × Nat} {P : Nat → Nat → Option Nat} {I : Nat → Nat → Int32} (hx : xFx sh P) {w nW room : Nat} {left : Int32} {rows : Nat → Int32} {st : BS} {pr : Nat → Int32} (hw : w = nW) (hn1 : nW ≤ 5) (e1 : I 128 1 = nI nW) (hrm : room ≤ 4) (hP : ∀ c, c < nW → I 128 (42 + c) = pr c) (hr : ∀ j, j < w → I 141 j = rows j) (hS : I 127 25 = st.1) (hB : ∀ k, k < nW → I 142 k = st.2 k) : xMet g Y_M_bagsFrom 0 0 0 [.ref 127, .int (nI w), .int left, .int (nI room)] (nx, sh, P, I) (xBGq nx sh P I w nW (bgL pr 0 w left room rows st)) := by
  refine xMet.of [some (.ref 127), some (.int (nI w)), some (.int left), some (.int (nI room)), none] (by decide +kernel) (Nat.le_of_ble_eq_true rfl) rfl ?_
  refine x_iload_n dX11_bagsFrom_0 rfl ?_
  refine x_aload_n dX11_bagsFrom_1 rfl ?_
  refine y_getr dX11_bagsFrom_2 F_M_9 (fxo_127 hx) rfl (fxp_127_1 hx) ?_
  refine x_iconst (v := 1) dX11_bagsFrom_5 (by decide) ?_
  refine y_iaload dX11_bagsFrom_6 (fxk_128 hx) (vi (j := 1) rfl (by omega) (by decide)) (rI (j := 1) rfl e1) ?_
  refine x_icmp_ne (tgt := 61) dX11_bagsFrom_7 rfl (fun c7 => ?_) (fun c7 => ?_)
  · exact absurd (show nI w = nI nW from by rw [show w = nW by omega]) c7
  · skip
    refine x_iload_n dX11_bagsFrom_10 rfl ?_
    refine x_if_ne (tgt := 60) dX11_bagsFrom_11 rfl (fun c11 => ?_) (fun c11 => ?_)
    · refine x_return dX11_bagsFrom_60 rfl ?_
      first | exact ⟨_, rfl, rfl, xFrm.tr (l := [127, 141, 142]) (l1 := [142]) (l2 := [127]) hF (xFrs xFrm.rf), xFdx (l := [25]) (fun b hb => congrFun (hF 127 (by decide)) b), fun j _ => congrFun ((xup_n (by decide)).trans (hF 141 (by decide))) j, by rw [xup_at, if_pos ⟨rfl, rfl⟩]; unfold bgL; rw [if_pos c11]; by_cases h : st.1 = 0; rw [if_pos h]; rw [if_neg h], fun k hk => by rw [xup_n (by decide), hfin k hk]; unfold bgL; rw [if_pos c11]; by_cases h : st.1 = 0; rw [if_pos h, if_pos h]; rw [if_neg h, if_neg h]⟩ | exact ⟨I, rfl, rfl, xFrm.rf, xFd.rf, fun _ _ => rfl, by unfold bgL; rw [if_neg c11]; exact hS, by unfold bgL; rw [if_neg c11]; exact hB⟩
    · refine x_iconst (v := 0) dX11_bagsFrom_14 (by decide) ?_
      refine x_istore dX11_bagsFrom_15 (Nat.le_of_ble_eq_true rfl) ?_
      try simp only [xst, xst2, xclr, xset, xwide]
      have K17 : ∀ (fuel : Nat) (i : Nat) (I2 : Nat → Nat → Int32) (hi : i ≤ 5) (hF : xFrm [142] I I2) (hT : ∀ j, j < i → I2 142 j = I 141 j) (hO : ∀ j, i ≤ j → I2 142 j = I 142 j) (hz : i = 0 ∨ st.1 = 0), 5 - i < fuel → xX g Y_M_bagsFrom 0 0 0 (xBGq nx sh P I w nW (bgL pr 0 w left room rows st)) 17 [some (.ref 127), some (.int (nI w)), some (.int left), some (.int (nI room)), some (.int (nI i))] [] (nx, sh, P, I2) := by
        intro fuel
        induction fuel with
        | zero => intro i I2 hi hF hT hO hz hm; exact absurd hm (Nat.not_lt_zero _)
        | succ fuel ih17 =>
          intro i I2 hi hF hT hO hz hm
          refine x_iload dX11_bagsFrom_17 rfl ?_
          refine x_iconst (v := 5) dX11_bagsFrom_19 (by decide) ?_
          refine x_icmp_ge (tgt := 50) dX11_bagsFrom_20 rfl (fun c20 => ?_) (fun c20 => ?_)
          · have hie : i = 5 := cge_t (by decide) hi c20
            have hfin : ∀ k, k < nW → I2 142 k = (if st.1 = 0 then rows else st.2) k := by
              intro k hk
              rw [if_pos (by rcases hz with h | h; omega; exact h), hT k (by omega), hr k (by omega)]
            have h25 := congrFun (hF 127 (by decide)) 25
            refine x_aload_n dX11_bagsFrom_50 rfl ?_
            refine x_dup dX11_bagsFrom_51 rfl ?_
            refine y_geti dX11_bagsFrom_52 F_M_233 (fxo_127 hx) rfl (h25.trans hS) ?_
            refine x_iconst (v := 1) dX11_bagsFrom_55 (by decide) ?_
            refine x_iadd dX11_bagsFrom_56 ?_
            refine x_puti dX11_bagsFrom_57 F_M_233 T_11_25 (fxo_127 hx) rfl rfl rfl ?_
            refine x_return dX11_bagsFrom_60 rfl ?_
            first | exact ⟨_, rfl, rfl, xFrm.tr (l := [127, 141, 142]) (l1 := [142]) (l2 := [127]) hF (xFrs xFrm.rf), xFdx (l := [25]) (fun b hb => congrFun (hF 127 (by decide)) b), fun j _ => congrFun ((xup_n (by decide)).trans (hF 141 (by decide))) j, by rw [xup_at, if_pos ⟨rfl, rfl⟩]; unfold bgL; rw [if_pos c11]; by_cases h : st.1 = 0; rw [if_pos h]; rw [if_neg h], fun k hk => by rw [xup_n (by decide), hfin k hk]; unfold bgL; rw [if_pos c11]; by_cases h : st.1 = 0; rw [if_pos h, if_pos h]; rw [if_neg h, if_neg h]⟩ | exact ⟨I, rfl, rfl, xFrm.rf, xFd.rf, fun _ _ => rfl, by unfold bgL; rw [if_neg c11]; exact hS, by unfold bgL; rw [if_neg c11]; exact hB⟩
          · have him : i < 5 := cge_f (by decide) hi c20
            refine x_aload_n dX11_bagsFrom_23 rfl ?_
            refine y_geti dX11_bagsFrom_24 F_M_233 (fxo_127 hx) rfl ((congrFun (hF 127 (by decide)) 25).trans hS) ?_
            refine x_if_ne (tgt := 50) dX11_bagsFrom_27 rfl (fun c27 => ?_) (fun c27 => ?_)
            · have hfin : ∀ k, k < nW → I2 142 k = (if st.1 = 0 then rows else st.2) k := by
                intro k hk
                rw [if_neg c27]
                rcases hz with h | h
                · exact (hO k (by omega)).trans (hB k hk)
                · exact absurd h c27
              have h25 := congrFun (hF 127 (by decide)) 25
              refine x_aload_n dX11_bagsFrom_50 rfl ?_
              refine x_dup dX11_bagsFrom_51 rfl ?_
              refine y_geti dX11_bagsFrom_52 F_M_233 (fxo_127 hx) rfl (h25.trans hS) ?_
              refine x_iconst (v := 1) dX11_bagsFrom_55 (by decide) ?_
              refine x_iadd dX11_bagsFrom_56 ?_
              refine x_puti dX11_bagsFrom_57 F_M_233 T_11_25 (fxo_127 hx) rfl rfl rfl ?_
              refine x_return dX11_bagsFrom_60 rfl ?_
              first | exact ⟨_, rfl, rfl, xFrm.tr (l := [127, 141, 142]) (l1 := [142]) (l2 := [127]) hF (xFrs xFrm.rf), xFdx (l := [25]) (fun b hb => congrFun (hF 127 (by decide)) b), fun j _ => congrFun ((xup_n (by decide)).trans (hF 141 (by decide))) j, by rw [xup_at, if_pos ⟨rfl, rfl⟩]; unfold bgL; rw [if_pos c11]; by_cases h : st.1 = 0; rw [if_pos h]; rw [if_neg h], fun k hk => by rw [xup_n (by decide), hfin k hk]; unfold bgL; rw [if_pos c11]; by_cases h : st.1 = 0; rw [if_pos h, if_pos h]; rw [if_neg h, if_neg h]⟩ | exact ⟨I, rfl, rfl, xFrm.rf, xFd.rf, fun _ _ => rfl, by unfold bgL; rw [if_neg c11]; exact hS, by unfold bgL; rw [if_neg c11]; exact hB⟩
            · skip
              refine x_aload_n dX11_bagsFrom_30 rfl ?_
              refine y_getr dX11_bagsFrom_31 F_M_55 (fxo_127 hx) rfl (fxp_127_28 hx) ?_
              refine x_iload dX11_bagsFrom_34 rfl ?_
              refine x_aload_n dX11_bagsFrom_36 rfl ?_
              refine y_getr dX11_bagsFrom_37 F_M_52 (fxo_127 hx) rfl (fxp_127_27 hx) ?_
              refine x_iload dX11_bagsFrom_40 rfl ?_
              refine y_iaload dX11_bagsFrom_42 (fxk_141 hx) (vi (j := i) rfl (by omega) (by decide)) (rI (j := i) (ci rfl (by omega)) (congrFun (hF 141 (by decide)) _)) ?_
              refine y_iastore dX11_bagsFrom_43 (fxk_142 hx) (vi (j := i) rfl (by omega) (by decide)) (ci (j := i) rfl (by omega)) ?_
              refine x_iinc (v := (nI (i + 1))) dX11_bagsFrom_44 rfl (nI_1 _) (Nat.le_of_ble_eq_true rfl) ?_
              try simp only [xst, xst2, xclr, xset, xwide]
              refine x_goto (tgt := 17) dX11_bagsFrom_47 rfl ?_
              exact ih17 (i + 1) _ (by omega) (xFrs hF) (fun j hj => by
                rw [xup_at]
                by_cases h : j = i
                · rw [if_pos ⟨rfl, h⟩, h]
                · rw [if_neg (fun z => h z.2)]; exact hT j (by omega)) (fun j hj => by rw [xup_at, if_neg (by omega)]; exact hO j (by omega)) (Or.inr c27) (by omega)
      exact K17 _ 0 I (by decide) xFrm.rf (fun j h => absurd h (Nat.not_lt_zero _)) (fun _ _ => rfl) (Or.inl rfl) (Nat.lt_succ_self _)

set_option maxHeartbeats 4000000 in
set_option maxRecDepth 100000 in
theorem r_bagsFromS {g : xG} {nx : Nat} {sh : Nat → Nat × Nat} {P : Nat → Nat → Option Nat} {I : Nat → Nat → Int32} (hx : xFx sh P) {m : Nat} (ih : xBG g m) {w nW room : Nat} {left : Int32} {rows : Nat → Int32} {st : BS} {pr : Nat → Int32} (hw : w + m + 1 = nW) (hn1 : nW ≤ 5) (e1 : I 128 1 = nI nW) (hrm : room ≤ 4) (hP : ∀ c, c < nW → I 128 (42 + c) = pr c) (hr : ∀ j, j < w → I 141 j = rows j) (hS : I 127 25 = st.1) (hB : ∀ k, k < nW → I 142 k = st.2 k) : xMet g Y_M_bagsFrom (m + 1) 0 0 [.ref 127, .int (nI w), .int left, .int (nI room)] (nx, sh, P, I) (xBGq nx sh P I w nW (bgL pr (m + 1) w left room rows st)) := by
  refine xMet.of [some (.ref 127), some (.int (nI w)), some (.int left), some (.int (nI room)), none] (by decide +kernel) (Nat.le_of_ble_eq_true rfl) rfl ?_
  refine x_iload_n dX11_bagsFrom_0 rfl ?_
  refine x_aload_n dX11_bagsFrom_1 rfl ?_
  refine y_getr dX11_bagsFrom_2 F_M_9 (fxo_127 hx) rfl (fxp_127_1 hx) ?_
  refine x_iconst (v := 1) dX11_bagsFrom_5 (by decide) ?_
  refine y_iaload dX11_bagsFrom_6 (fxk_128 hx) (vi (j := 1) rfl (by omega) (by decide)) (rI (j := 1) rfl e1) ?_
  refine x_icmp_ne (tgt := 61) dX11_bagsFrom_7 rfl (fun c7 => ?_) (fun c7 => ?_)
  · have hwl : w < nW := by omega
    refine x_iload_n dX11_bagsFrom_61 rfl ?_
    refine x_istore dX11_bagsFrom_62 (Nat.le_of_ble_eq_true rfl) ?_
    try simp only [xst, xst2, xclr, xset, xwide]
    have K64 : ∀ (fuel : Nat) (j : Nat) (I2 : Nat → Nat → Int32) (hj : j ≤ room + 1) (hF : xFrm [127, 141, 142] I I2) (hD : xFd [25] I I2) (hr2 : ∀ i, i < w → I2 141 i = rows i) (hS2 : I2 127 25 = (bgK (bgF pr m w left room rows) j st).1) (hB2 : ∀ k, k < nW → I2 142 k = (bgK (bgF pr m w left room rows) j st).2 k), room + 1 - j < fuel → xX g Y_M_bagsFrom (m + 1) 0 0 (xBGq nx sh P I w nW (bgL pr (m + 1) w left room rows st)) 64 [some (.ref 127), some (.int (nI w)), some (.int left), some (.int (nI room)), some (.int (nI room - nI j))] [] (nx, sh, P, I2) := by
      intro fuel
      induction fuel with
      | zero => intro j I2 hj hF hD hr2 hS2 hB2 hm; exact absurd hm (Nat.not_lt_zero _)
      | succ fuel ih64 =>
        intro j I2 hj hF hD hr2 hS2 hB2 hm
        refine x_iload dX11_bagsFrom_64 rfl ?_
        refine x_if_lt (tgt := 124) dX11_bagsFrom_66 rfl (fun c66 => ?_) (fun c66 => ?_)
        · have hjl := (nsn (by omega) (by omega)).mp c66
          have hie : j = room + 1 := by omega
          refine x_return dX11_bagsFrom_124 rfl ?_
          exact ⟨I2, rfl, rfl, hF, hD, fun i hi => (hr2 i hi).trans (hr i hi).symm, by rw [bgL_s, ← hie]; exact hS2, by rw [bgL_s, ← hie]; exact hB2⟩
        · have hjl : j ≤ room := Nat.le_of_not_lt (fun h => c66 ((nsn (by omega) (by omega)).mpr h))
          rw [nI_subN hjl]
          have hbf : (bgF pr m w left room rows) j (bgK (bgF pr m w left room rows) j st) = if nI (room - j) * pr w ≤ left then bgL pr m (w + 1) (left - nI (room - j) * pr w) (room - (room - j)) (upd rows w (nI (room - j))) (bgK (bgF pr m w left room rows) j st) else bgK (bgF pr m w left room rows) j st := rfl
          have e128 : I2 128 = I 128 := hF 128 (by decide)
          refine x_aload_n dX11_bagsFrom_69 rfl ?_
          refine y_getr dX11_bagsFrom_70 F_M_52 (fxo_127 hx) rfl (fxp_127_27 hx) ?_
          refine x_iload_n dX11_bagsFrom_73 rfl ?_
          refine x_iload dX11_bagsFrom_74 rfl ?_
          refine y_iastore dX11_bagsFrom_76 (fxk_141 hx) (vi (j := w) rfl (by omega) (by decide)) (ci (j := w) rfl (by omega)) ?_
          refine x_iload dX11_bagsFrom_77 rfl ?_
          refine x_aload_n dX11_bagsFrom_79 rfl ?_
          refine y_getr dX11_bagsFrom_80 F_M_9 (fxo_127 hx) rfl (fxp_127_1 hx) ?_
          refine x_bipush (v := 42) dX11_bagsFrom_83 (by decide) ?_
          refine x_iload_n dX11_bagsFrom_85 rfl ?_
          refine x_iadd dX11_bagsFrom_86 ?_
          refine y_iaload dX11_bagsFrom_87 (fxk_128 hx) (vi (j := (42 + w)) (nadd (a := 42) (b := w) rfl rfl) (by omega) (by decide)) (rI (j := (42 + w)) (ci (nadd (a := 42) (b := w) rfl rfl) (by omega)) ((congrFun ((xup_n (by decide)).trans e128) _).trans (hP w hwl))) ?_
          refine x_imul dX11_bagsFrom_88 ?_
          refine x_iload_n dX11_bagsFrom_89 rfl ?_
          refine x_icmp_gt (tgt := 118) dX11_bagsFrom_90 rfl (fun c90 => ?_) (fun c90 => ?_)
          · refine x_iinc (v := (nI room - nI (j + 1))) dX11_bagsFrom_118 rfl (i_m1.trans (nI_dn hjl)) (Nat.le_of_ble_eq_true rfl) ?_
            try simp only [xst, xst2, xclr, xset, xwide]
            refine x_goto (tgt := 64) dX11_bagsFrom_121 rfl ?_
            first | exact ih64 (j + 1) I4 (by omega) ((xFrs hF).tr hF4) (xFd.tr (l := [25]) (l1 := [25]) (xFdn hD) hD4) (fun i hi => (hr4 i (by omega)).trans ((xup_at.trans (if_neg (by omega))).trans (hr2 i hi))) (by rw [hS4]; show _ = ((bgF pr m w left room rows) j (bgK (bgF pr m w left room rows) j st)).1; rw [hbf, if_pos (Int32.not_lt.mp c90)]) (fun k hk => by rw [hB4 k hk]; show _ = ((bgF pr m w left room rows) j (bgK (bgF pr m w left room rows) j st)).2 k; rw [hbf, if_pos (Int32.not_lt.mp c90)]) (by omega) | exact ih64 (j + 1) _ (by omega) (xFrs hF) (xFdn hD) (fun i hi => (xup_at.trans (if_neg (by omega))).trans (hr2 i hi)) (by rw [xup_n (by decide), hS2]; show _ = ((bgF pr m w left room rows) j (bgK (bgF pr m w left room rows) j st)).1; rw [hbf, if_neg (Int32.not_le.mpr c90)]) (fun k hk => by rw [xup_n (by decide), hB2 k hk]; show _ = ((bgF pr m w left room rows) j (bgK (bgF pr m w left room rows) j st)).2 k; rw [hbf, if_neg (Int32.not_le.mpr c90)]) (by omega)
          · refine x_aload_n dX11_bagsFrom_93 rfl ?_
            refine x_iload_n dX11_bagsFrom_94 rfl ?_
            refine x_iconst (v := 1) dX11_bagsFrom_95 (by decide) ?_
            refine x_iadd dX11_bagsFrom_96 ?_
            rw [nI_1]
            refine x_iload_n dX11_bagsFrom_97 rfl ?_
            refine x_iload dX11_bagsFrom_98 rfl ?_
            refine x_aload_n dX11_bagsFrom_100 rfl ?_
            refine y_getr dX11_bagsFrom_101 F_M_9 (fxo_127 hx) rfl (fxp_127_1 hx) ?_
            refine x_bipush (v := 42) dX11_bagsFrom_104 (by decide) ?_
            refine x_iload_n dX11_bagsFrom_106 rfl ?_
            refine x_iadd dX11_bagsFrom_107 ?_
            refine y_iaload dX11_bagsFrom_108 (fxk_128 hx) (vi (j := (42 + w)) (nadd (a := 42) (b := w) rfl rfl) (by omega) (by decide)) (rI (j := (42 + w)) (ci (nadd (a := 42) (b := w) rfl rfl) (by omega)) ((congrFun ((xup_n (by decide)).trans e128) _).trans (hP w hwl))) ?_
            refine x_imul dX11_bagsFrom_109 ?_
            refine x_isub dX11_bagsFrom_110 ?_
            refine x_iload_n dX11_bagsFrom_111 rfl ?_
            refine x_iload dX11_bagsFrom_112 rfl ?_
            refine x_isub dX11_bagsFrom_114 ?_
            rw [nI_subN (Nat.sub_le _ _)]
            refine x_callV (k2 := 0) (n2 := 0) dX11_bagsFrom_115 LV_M_268 (ih nx sh P (xup I2 141 w (nI (room - j))) (w + 1) nW (room - (room - j)) (left - nI (room - j) * pr w) (upd rows w (nI (room - j))) (bgK (bgF pr m w left room rows) j st) pr hx (by omega) hn1 (by rw [xup_n (by decide), e128]; exact e1) (by omega) (by rw [xup_n (by decide), e128]; exact hP) (fun i hi => by rw [xup_at]; unfold upd; by_cases h : i = w; rw [if_pos ⟨rfl, h⟩, if_pos h]; rw [if_neg (fun z => h z.2), if_neg h]; exact hr2 i (by omega)) (by rw [xup_n (by decide)]; exact hS2) (fun k hk => by rw [xup_n (by decide)]; exact hB2 k hk)) rfl rfl (fxo_127 hx) rfl (Nat.le_refl _) (Nat.le_of_ble_eq_true rfl) (Nat.le_of_ble_eq_true rfl) (Nat.le_of_ble_eq_true rfl) ?_
            rintro _ _ ⟨I4, rfl, rfl, hF4, hD4, hr4, hS4, hB4⟩
            refine x_iinc (v := (nI room - nI (j + 1))) dX11_bagsFrom_118 rfl (i_m1.trans (nI_dn hjl)) (Nat.le_of_ble_eq_true rfl) ?_
            try simp only [xst, xst2, xclr, xset, xwide]
            refine x_goto (tgt := 64) dX11_bagsFrom_121 rfl ?_
            first | exact ih64 (j + 1) I4 (by omega) ((xFrs hF).tr hF4) (xFd.tr (l := [25]) (l1 := [25]) (xFdn hD) hD4) (fun i hi => (hr4 i (by omega)).trans ((xup_at.trans (if_neg (by omega))).trans (hr2 i hi))) (by rw [hS4]; show _ = ((bgF pr m w left room rows) j (bgK (bgF pr m w left room rows) j st)).1; rw [hbf, if_pos (Int32.not_lt.mp c90)]) (fun k hk => by rw [hB4 k hk]; show _ = ((bgF pr m w left room rows) j (bgK (bgF pr m w left room rows) j st)).2 k; rw [hbf, if_pos (Int32.not_lt.mp c90)]) (by omega) | exact ih64 (j + 1) _ (by omega) (xFrs hF) (xFdn hD) (fun i hi => (xup_at.trans (if_neg (by omega))).trans (hr2 i hi)) (by rw [xup_n (by decide), hS2]; show _ = ((bgF pr m w left room rows) j (bgK (bgF pr m w left room rows) j st)).1; rw [hbf, if_neg (Int32.not_le.mpr c90)]) (fun k hk => by rw [xup_n (by decide), hB2 k hk]; show _ = ((bgF pr m w left room rows) j (bgK (bgF pr m w left room rows) j st)).2 k; rw [hbf, if_neg (Int32.not_le.mpr c90)]) (by omega)
    have K64' := K64 _ 0 I (Nat.zero_le _) xFrm.rf xFd.rf hr hS hB (Nat.lt_succ_self _)
    rw [show nI room - nI 0 = nI room by rw [nI_subN (Nat.zero_le _), Nat.sub_zero]] at K64'
    exact K64'
  · exact absurd c7 (fun z => by have h9 := nI_lt (a := w) (b := nW) (by omega) (by omega); rw [z] at h9; exact absurd h9 Int32.lt_irrefl)

theorem r_bagsFrom {g : xG} : ∀ m, xBG g m
  | 0 => fun _ _ _ _ _ _ _ _ _ _ _ hx hc hn e1 hrm hP hr hS hB => r_bagsFrom0 hx (by omega) hn e1 hrm hP hr hS hB
  | m + 1 => fun _ _ _ _ _ _ _ _ _ _ _ hx hc hn e1 hrm hP hr hS hB => r_bagsFromS hx (r_bagsFrom m) (by omega) hn e1 hrm hP hr hS hB
def bgA (s : Nat → Int32) (sum : Int32) : BS := bgL (fun c => s (42 + c)) (cN s 1) 0 sum 4 (fun _ => 0) (0, fun _ => 0)
def a_bought (s : Nat → Int32) (sum k : Int32) : Int32 := if -1 ≤ k ∧ k ≤ 4 then (if 0 ≤ sum ∧ sum ≤ 99 then (if k = -1 then (bgA s sum).1 else if (bgA s sum).1 = 0 ∨ s 1 ≤ k then -5 else (bgA s sum).2 k.toNatClampNeg) else -2) else -1

set_option maxHeartbeats 4000000 in
set_option maxRecDepth 100000 in
theorem r_bought {g : xG} {nx : Nat} {sh : Nat → Nat × Nat} {P : Nat → Nat → Option Nat} {I : Nat → Nat → Int32} (hx : xFx sh P) {sum k : Int32} (hR : RI (I 128)) : xMet g Y_M_bought 6 0 0 [.ref 127, .int sum, .int k] (nx, sh, P, I) (fun r σ => ∃ I1 : Nat → Nat → Int32, r = some (.int (a_bought (I 128) sum k)) ∧ σ = (nx, sh, P, I1) ∧ xFrm [127, 141, 142] I I1 ∧ xFd [25] I I1) := by
  refine xMet.of [some (.ref 127), some (.int sum), some (.int k)] (by decide +kernel) (Nat.le_of_ble_eq_true rfl) rfl ?_
  obtain ⟨⟨n0, b0, e0⟩, ⟨n1, b1, e1⟩, ⟨n2, b2, e2⟩, ⟨n3, b3, e3⟩, ⟨n4, b4, e4⟩, ⟨n5, b5, e5⟩, ⟨n6, b6, e6⟩, ⟨n7, b7, e7⟩, ⟨n9, b9, e9⟩⟩ := hR.k
  refine x_iload_n dX11_bought_0 rfl ?_
  refine x_iconst (v := (-1)) dX11_bought_1 (by decide) ?_
  refine x_iconst (v := 4) dX11_bought_2 (by decide) ?_
  refine x_callS (k2 := 0) (n2 := 0) dX11_bought_3 LS_M_65 r_in rfl rfl (Nat.le_of_ble_eq_true rfl) (Nat.le_of_ble_eq_true rfl) (Nat.le_of_ble_eq_true rfl) (Nat.le_of_ble_eq_true rfl) ?_
  rintro _ _ ⟨rfl, rfl⟩
  refine x_if_ne (tgt := 11) dX11_bought_6 rfl (fun c6 => ?_) (fun c6 => ?_)
  · refine x_iload_n dX11_bought_11 rfl ?_
    refine x_iconst (v := 0) dX11_bought_12 (by decide) ?_
    refine x_bipush (v := 99) dX11_bought_13 (by decide) ?_
    refine x_callS (k2 := 0) (n2 := 0) dX11_bought_15 LS_M_65 r_in rfl rfl (Nat.le_of_ble_eq_true rfl) (Nat.le_of_ble_eq_true rfl) (Nat.le_of_ble_eq_true rfl) (Nat.le_of_ble_eq_true rfl) ?_
    rintro _ _ ⟨rfl, rfl⟩
    refine x_if_ne (tgt := 24) dX11_bought_18 rfl (fun c18 => ?_) (fun c18 => ?_)
    · refine x_aload_n dX11_bought_24 rfl ?_
      refine x_iconst (v := 0) dX11_bought_25 (by decide) ?_
      refine x_puti dX11_bought_26 F_M_233 T_11_25 (fxo_127 hx) rfl rfl rfl ?_
      refine x_aload_n dX11_bought_29 rfl ?_
      refine x_iconst (v := 0) dX11_bought_30 (by decide) ?_
      refine x_iload_n dX11_bought_31 rfl ?_
      refine x_iconst (v := 4) dX11_bought_32 (by decide) ?_
      refine x_callV (k2 := 0) (n2 := 0) dX11_bought_33 LV_M_268 (r_bagsFrom n1 nx sh P (xup I 127 25 0) 0 n1 4 sum (fun _ => 0) (0, I 142) (fun c => I 128 (42 + c)) hx (by omega) (by omega) (by rw [xup_n (by decide)]; exact e1) (by decide) (fun c _ => congrFun (xup_n (by decide)) _) (fun j h => absurd h (Nat.not_lt_zero _)) (by rw [xup_at, if_pos ⟨rfl, rfl⟩]) (fun k _ => congrFun (xup_n (by decide)) _)) rfl rfl (fxo_127 hx) rfl (show n1 + 1 ≤ 6 by omega) (Nat.le_of_ble_eq_true rfl) (Nat.le_of_ble_eq_true rfl) (Nat.le_of_ble_eq_true rfl) ?_
      rintro _ _ ⟨I1, rfl, rfl, hF1, hD1, -, hS1, hB1⟩
      have hF : xFrm [127, 141, 142] I I1 := (xFrs xFrm.rf).tr (l1 := [127]) hF1
      have hD : xFd [25] I I1 := xFd.tr (l1 := [25]) (xFdx xFd.rf) hD1
      have e128 : I1 128 = I 128 := hF 128 (by decide)
      have hE := bgL_E (pr := fun c => I 128 (42 + c)) n1 0 sum 4 (fun _ => 0) (0, I 142) (0, fun _ => 0) ⟨rfl, fun h => absurd rfl h⟩
      have hA : bgL (fun c => I 128 (42 + c)) n1 0 sum 4 (fun _ => 0) (0, fun _ => 0) = bgA (I 128) sum := by unfold bgA; rw [cN_of e1 (by omega)]
      rw [hA] at hE
      have h25 : I1 127 25 = (bgA (I 128) sum).1 := hS1.trans hE.1
      refine x_iload_n dX11_bought_36 rfl ?_
      refine x_iconst (v := (-1)) dX11_bought_37 (by decide) ?_
      refine x_icmp_ne (tgt := 46) dX11_bought_38 rfl (fun c38 => ?_) (fun c38 => ?_)
      · refine x_aload_n dX11_bought_46 rfl ?_
        refine y_geti dX11_bought_47 F_M_233 (fxo_127 hx) rfl h25 ?_
        refine x_if_eq (tgt := 63) dX11_bought_50 rfl (fun c50 => ?_) (fun c50 => ?_)
        · refine x_bipush (v := (-5)) dX11_bought_63 (by decide) ?_
          refine x_goto (tgt := 74) dX11_bought_65 rfl ?_
          refine x_ireturn dX11_bought_74 rfl nb_int ?_
          first | exact ⟨I1, by unfold a_bought; rw [if_pos (b_t c6), if_pos (b_t c18), if_neg c38, if_pos (Or.inl c50)], rfl, hF, hD⟩ | exact ⟨I1, by unfold a_bought; rw [if_pos (b_t c6), if_pos (b_t c18), if_neg c38, if_pos (Or.inr (by rw [e1]; exact Int32.not_lt.mp c60))], rfl, hF, hD⟩ | exact ⟨I1, by unfold a_bought; rw [if_pos (b_t c6), if_pos (b_t c18), if_neg c38, if_neg (fun h => h.elim c50 (fun h => absurd c60 (by rw [e1] at h; exact Int32.not_lt.mpr h))), nI_clamp (by omega)], rfl, hF, hD⟩
        · refine x_iload_n dX11_bought_53 rfl ?_
          refine x_aload_n dX11_bought_54 rfl ?_
          refine y_getr dX11_bought_55 F_M_9 (fxo_127 hx) rfl (fxp_127_1 hx) ?_
          refine x_iconst (v := 1) dX11_bought_58 (by decide) ?_
          refine y_iaload dX11_bought_59 (fxk_128 hx) (vi (j := 1) rfl (by omega) (by decide)) (rI (j := 1) rfl ((congrFun e128 _).trans e1)) ?_
          refine x_icmp_lt (tgt := 68) dX11_bought_60 rfl (fun c60 => ?_) (fun c60 => ?_)
          · obtain ⟨z, hz, rfl⟩ : ∃ z, z < 5 ∧ k = nI z := by
              obtain ⟨z, hz, e⟩ := i_2 (i := k) (n := 5) (by decide) (by have h9 := b_t c6; exact ⟨by have h8 := h9.1; have : ¬ k = -1 := c38; grind, Int32.lt_of_le_of_lt h9.2 (by decide)⟩)
              exact ⟨z, hz, e⟩
            have hzn := (nI_ltI (a := z) (b := n1) (by omega) (by omega)).mp c60
            refine x_aload_n dX11_bought_68 rfl ?_
            refine y_getr dX11_bought_69 F_M_55 (fxo_127 hx) rfl (fxp_127_28 hx) ?_
            refine x_iload_n dX11_bought_72 rfl ?_
            refine y_iaload dX11_bought_73 (fxk_142 hx) (vi (j := z) rfl (by omega) (by decide)) (rI (j := z) (ci rfl (by omega)) ((hB1 z hzn).trans (congrFun (hE.2 (by rw [hE.1]; exact c50)) z))) ?_
            refine x_ireturn dX11_bought_74 rfl nb_int ?_
            first | exact ⟨I1, by unfold a_bought; rw [if_pos (b_t c6), if_pos (b_t c18), if_neg c38, if_pos (Or.inl c50)], rfl, hF, hD⟩ | exact ⟨I1, by unfold a_bought; rw [if_pos (b_t c6), if_pos (b_t c18), if_neg c38, if_pos (Or.inr (by rw [e1]; exact Int32.not_lt.mp c60))], rfl, hF, hD⟩ | exact ⟨I1, by unfold a_bought; rw [if_pos (b_t c6), if_pos (b_t c18), if_neg c38, if_neg (fun h => h.elim c50 (fun h => absurd c60 (by rw [e1] at h; exact Int32.not_lt.mpr h))), nI_clamp (by omega)], rfl, hF, hD⟩
          · refine x_bipush (v := (-5)) dX11_bought_63 (by decide) ?_
            refine x_goto (tgt := 74) dX11_bought_65 rfl ?_
            refine x_ireturn dX11_bought_74 rfl nb_int ?_
            first | exact ⟨I1, by unfold a_bought; rw [if_pos (b_t c6), if_pos (b_t c18), if_neg c38, if_pos (Or.inl c50)], rfl, hF, hD⟩ | exact ⟨I1, by unfold a_bought; rw [if_pos (b_t c6), if_pos (b_t c18), if_neg c38, if_pos (Or.inr (by rw [e1]; exact Int32.not_lt.mp c60))], rfl, hF, hD⟩ | exact ⟨I1, by unfold a_bought; rw [if_pos (b_t c6), if_pos (b_t c18), if_neg c38, if_neg (fun h => h.elim c50 (fun h => absurd c60 (by rw [e1] at h; exact Int32.not_lt.mpr h))), nI_clamp (by omega)], rfl, hF, hD⟩
      · refine x_aload_n dX11_bought_41 rfl ?_
        refine y_geti dX11_bought_42 F_M_233 (fxo_127 hx) rfl h25 ?_
        refine x_ireturn dX11_bought_45 rfl nb_int ?_
        exact ⟨I1, by unfold a_bought; rw [if_pos (b_t c6), if_pos (b_t c18), if_pos c38], rfl, hF, hD⟩
    · refine x_bipush (v := (-2)) dX11_bought_21 (by decide) ?_
      refine x_ireturn dX11_bought_23 rfl nb_int ?_
      exact ⟨I, by unfold a_bought; rw [if_pos (b_t c6), if_neg (b_f c18)], rfl, xFrm.rf, xFd.rf⟩
  · refine x_iconst (v := (-1)) dX11_bought_9 (by decide) ?_
    refine x_ireturn dX11_bought_10 rfl nb_int ?_
    exact ⟨I, by unfold a_bought; rw [if_neg (b_f c6)], rfl, xFrm.rf, xFd.rf⟩
