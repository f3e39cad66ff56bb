/-! the reference: paying -/
/-- how few coins, how many ways, the best rows -/
abbrev PS := Int32 × Int32 × (Nat → Int32)
def pyK (f : Nat → PS → PS) : Nat → PS → PS
  | 0, st => st
  | k + 1, st => f k (pyK f k st)
def abI (n : Int32) : Int32 := if n < 0 then -n else n
/-- paying from coin c on, m coins being left -/
def pyL (w : Nat → Int32) (bk pu : Nat → Nat) : Nat → Nat → Int32 → Int32 → (Nat → Int32) → PS → PS
  | 0, _, left, coins, rows, st => if left = 0 then (if coins < st.1 then (coins, st.2.1 + 1, rows) else (st.1, st.2.1 + 1, st.2.2)) else st
  | m + 1, c, left, coins, rows, st => pyK (fun k st => pyL w bk pu m (c + 1) (left - (nI k - nI (bk c)) * w c) (coins + abI (nI k - nI (bk c))) (upd rows c (nI k - nI (bk c))) st) (bk c + pu c + 1) st
def pyF (w : Nat → Int32) (bk pu : Nat → Nat) (m c : Nat) (left coins : Int32) (rows : Nat → Int32) (k : Nat) (st : PS) : PS := pyL w bk pu m (c + 1) (left - (nI k - nI (bk c)) * w c) (coins + abI (nI k - nI (bk c))) (upd rows c (nI k - nI (bk c))) st
theorem pyL_s {w : Nat → Int32} {bk pu : Nat → Nat} {m c : Nat} {left coins : Int32} {rows : Nat → Int32} {st : PS} : pyL w bk pu (m + 1) c left coins rows st = pyK (pyF w bk pu m c left coins rows) (bk c + pu c + 1) st := rfl
/-- what stands in the fields -/
def xBR (I : Nat → Nat → Int32) (st : PS) : Prop := I 127 24 = st.1 ∧ I 127 25 = st.2.1 ∧ ∀ k, k < 4 → I 138 k = st.2.2 k
theorem nsb {k b : Nat} : nI k - nI b + 1 = nI (k + 1) - nI b := by rw [← nI_1, Int32.sub_eq_add_neg, Int32.sub_eq_add_neg, Int32.add_assoc, Int32.add_assoc, Int32.add_comm (-nI b) 1]
theorem nsl {k b p : Nat} (hk : k ≤ 1000) (hb : b ≤ 1000) (hp : p ≤ 1000) : nI p < nI k - nI b ↔ p + b < k := by
  have h1 := nI_toInt (n := k) (by omega)
  have h2 := nI_toInt (n := b) (by omega)
  have h3 := nI_toInt (n := p) (by omega)
  have h4 := i_sub h1 h2 (by omega) (by omega)
  rw [Int32.lt_iff_toInt_lt, h3, h4]
  omega
theorem nsn {k b : Nat} (hk : k ≤ 1000) (hb : b ≤ 1000) : nI k - nI b < 0 ↔ k < b := by
  have h1 := nI_toInt (n := k) (by omega)
  have h2 := nI_toInt (n := b) (by omega)
  have h4 := i_sub h1 h2 (by omega) (by omega)
  rw [Int32.lt_iff_toInt_lt, h4, show (0 : Int32).toInt = 0 from rfl]
  omega
/-- what paying needs: purse, worths -/
def xPW (I : Nat → Nat → Int32) (w : Nat → Int32) (pu : Nat → Nat) : Prop := (∀ c, c < 4 → I 136 c = nI (pu c) ∧ pu c ≤ 9) ∧ ∀ c, c < 4 → I 132 c = w c
def bkN (n0 back : Nat) (c : Nat) : Nat := if c < n0 then back else 0
def xPFq (nx : Nat) (sh : Nat → Nat × Nat) (P : Nat → Nat → Option Nat) (I : Nat → Nat → Int32) (c : Nat) (st : PS) (r : Option Value) (σ : xS) : Prop := ∃ I1 : Nat → Nat → Int32, r = none ∧ σ = (nx, sh, P, I1) ∧ xFrm [127, 137, 138] I I1 ∧ xFd [24, 25] I I1 ∧ (∀ j, j < c → I1 137 j = I 137 j) ∧ xBR I1 st
/-- the contract of paysFrom, m coins being left -/
def xPF (g : xG) (m : Nat) : Prop := ∀ (nx : Nat) (sh : Nat → Nat × Nat) (P : Nat → Nat → Option Nat) (I : Nat → Nat → Int32) (c : Nat) (left coins : Int32) (rows : Nat → Int32) (st : PS) (n0 back : Nat) (w : Nat → Int32) (pu : Nat → Nat), xFx sh P → c + m = 4 → n0 ≤ 4 → I 128 0 = nI n0 → back ≤ 3 → xPW I w pu → (∀ j, j < c → I 137 j = rows j) → xBR I st →
  xMet g Y_M_paysFrom m 0 0 [.ref 127, .int (nI c), .int left, .int coins, .int (nI back)] (nx, sh, P, I) (xPFq nx sh P I c (pyL w (bkN n0 back) pu m c left coins rows st))

set_option maxHeartbeats 4000000 in
set_option maxRecDepth 100000 in
theorem r_paysFrom0 {g : xG} {nx : Nat} {sh : Nat → Nat × Nat} {P : Nat → Nat → Option Nat} {I : Nat → Nat → Int32} (hx : xFx sh P) {c : Nat} {left coins : Int32} {rows : Nat → Int32} {st : PS} {n0 back : Nat} {w : Nat → Int32} {pu : Nat → Nat} (hc : c = 4) (hn0 : n0 ≤ 4) (e0 : I 128 0 = nI n0) (hbk : back ≤ 3) (hW : xPW I w pu) (hr : ∀ j, j < c → I 137 j = rows j) (hS : xBR I st) : xMet g Y_M_paysFrom 0 0 0 [.ref 127, .int (nI c), .int left, .int coins, .int (nI back)] (nx, sh, P, I) (xPFq nx sh P I c (pyL w (bkN n0 back) pu 0 c left coins rows st)) := by
  refine xMet.of [some (.ref 127), some (.int (nI c)), some (.int left), some (.int coins), some (.int (nI back)), none] (by decide +kernel) (Nat.le_of_ble_eq_true rfl) rfl ?_
  refine x_iload_n dX11_paysFrom_0 rfl ?_
  refine x_iconst (v := 4) dX11_paysFrom_1 (by decide) ?_
  refine x_icmp_ne (tgt := 62) dX11_paysFrom_2 rfl (fun c2 => ?_) (fun c2 => ?_)
  · exact absurd (show nI c = 4 from by rw [show c = 4 by omega]; rfl) c2
  · skip
    refine x_iload_n dX11_paysFrom_5 rfl ?_
    refine x_if_ne (tgt := 61) dX11_paysFrom_6 rfl (fun c6 => ?_) (fun c6 => ?_)
    · skip
      refine x_return dX11_paysFrom_61 rfl ?_
      first | exact ⟨I2, rfl, rfl, hF, hD, fun j _ => congrFun hR j, by unfold pyL; rw [if_pos c6, if_pos (Int32.not_le.mp c24)]; exact ⟨h24, h25, hT⟩⟩ | exact ⟨_, rfl, rfl, xFrs xFrm.rf, xFdx xFd.rf, fun j _ => congrFun (xup_n (by decide)) j, by unfold pyL; rw [if_pos c6, if_neg (Int32.not_lt.mpr c24)]; exact ⟨by rw [xup_at, if_neg (by decide)]; exact hS.1, by rw [xup_at, if_pos ⟨rfl, rfl⟩], fun k hk => by rw [xup_n (by decide)]; exact hS.2.2 k hk⟩⟩ | exact ⟨I, rfl, rfl, xFrm.rf, xFd.rf, fun _ _ => rfl, by unfold pyL; rw [if_neg c6]; exact hS⟩
    · refine x_aload_n dX11_paysFrom_9 rfl ?_
      refine x_dup dX11_paysFrom_10 rfl ?_
      refine y_geti dX11_paysFrom_11 F_M_233 (fxo_127 hx) rfl hS.2.1 ?_
      refine x_iconst (v := 1) dX11_paysFrom_14 (by decide) ?_
      refine x_iadd dX11_paysFrom_15 ?_
      refine x_puti dX11_paysFrom_16 F_M_233 T_11_25 (fxo_127 hx) rfl rfl rfl ?_
      refine x_iload_n dX11_paysFrom_19 rfl ?_
      refine x_aload_n dX11_paysFrom_20 rfl ?_
      refine y_geti dX11_paysFrom_21 F_M_236 (fxo_127 hx) rfl ((xup_at.trans (if_neg (by decide))).trans hS.1) ?_
      refine x_icmp_ge (tgt := 61) dX11_paysFrom_24 rfl (fun c24 => ?_) (fun c24 => ?_)
      · refine x_return dX11_paysFrom_61 rfl ?_
        first | exact ⟨I2, rfl, rfl, hF, hD, fun j _ => congrFun hR j, by unfold pyL; rw [if_pos c6, if_pos (Int32.not_le.mp c24)]; exact ⟨h24, h25, hT⟩⟩ | exact ⟨_, rfl, rfl, xFrs xFrm.rf, xFdx xFd.rf, fun j _ => congrFun (xup_n (by decide)) j, by unfold pyL; rw [if_pos c6, if_neg (Int32.not_lt.mpr c24)]; exact ⟨by rw [xup_at, if_neg (by decide)]; exact hS.1, by rw [xup_at, if_pos ⟨rfl, rfl⟩], fun k hk => by rw [xup_n (by decide)]; exact hS.2.2 k hk⟩⟩ | exact ⟨I, rfl, rfl, xFrm.rf, xFd.rf, fun _ _ => rfl, by unfold pyL; rw [if_neg c6]; exact hS⟩
      · refine x_aload_n dX11_paysFrom_27 rfl ?_
        refine x_iload_n dX11_paysFrom_28 rfl ?_
        refine x_puti dX11_paysFrom_29 F_M_236 T_11_24 (fxo_127 hx) rfl rfl rfl ?_
        refine x_iconst (v := 0) dX11_paysFrom_32 (by decide) ?_
        refine x_istore dX11_paysFrom_33 (Nat.le_of_ble_eq_true rfl) ?_
        try simp only [xst, xst2, xclr, xset, xwide]
        have K35 : ∀ (fuel : Nat) (i : Nat) (I2 : Nat → Nat → Int32) (hi : i ≤ 4) (hF : xFrm [127, 137, 138] I I2) (hD : xFd [24, 25] I I2) (hR : I2 137 = I 137) (h24 : I2 127 24 = coins) (h25 : I2 127 25 = st.2.1 + 1) (hT : ∀ j, j < i → I2 138 j = rows j), 4 - i < fuel → xX g Y_M_paysFrom 0 0 0 (xPFq nx sh P I c (pyL w (bkN n0 back) pu 0 c left coins rows st)) 35 [some (.ref 127), some (.int (nI c)), some (.int left), some (.int coins), some (.int (nI back)), some (.int (nI i))] [] (nx, sh, P, I2) := by
          intro fuel
          induction fuel with
          | zero => intro i I2 hi hF hD hR h24 h25 hT hm; exact absurd hm (Nat.not_lt_zero _)
          | succ fuel ih35 =>
            intro i I2 hi hF hD hR h24 h25 hT hm
            refine x_iload dX11_paysFrom_35 rfl ?_
            refine x_iconst (v := 4) dX11_paysFrom_37 (by decide) ?_
            refine x_icmp_ge (tgt := 61) dX11_paysFrom_38 rfl (fun c38 => ?_) (fun c38 => ?_)
            · have hie : i = 4 := cge_t (by decide) hi c38
              subst hie
              refine x_return dX11_paysFrom_61 rfl ?_
              first | exact ⟨I2, rfl, rfl, hF, hD, fun j _ => congrFun hR j, by unfold pyL; rw [if_pos c6, if_pos (Int32.not_le.mp c24)]; exact ⟨h24, h25, hT⟩⟩ | exact ⟨_, rfl, rfl, xFrs xFrm.rf, xFdx xFd.rf, fun j _ => congrFun (xup_n (by decide)) j, by unfold pyL; rw [if_pos c6, if_neg (Int32.not_lt.mpr c24)]; exact ⟨by rw [xup_at, if_neg (by decide)]; exact hS.1, by rw [xup_at, if_pos ⟨rfl, rfl⟩], fun k hk => by rw [xup_n (by decide)]; exact hS.2.2 k hk⟩⟩ | exact ⟨I, rfl, rfl, xFrm.rf, xFd.rf, fun _ _ => rfl, by unfold pyL; rw [if_neg c6]; exact hS⟩
            · have him : i < 4 := cge_f (by decide) hi c38
              refine x_aload_n dX11_paysFrom_41 rfl ?_
              refine y_getr dX11_paysFrom_42 F_M_43 (fxo_127 hx) rfl (fxp_127_22 hx) ?_
              refine x_iload dX11_paysFrom_45 rfl ?_
              refine x_aload_n dX11_paysFrom_47 rfl ?_
              refine y_getr dX11_paysFrom_48 F_M_40 (fxo_127 hx) rfl (fxp_127_21 hx) ?_
              refine x_iload dX11_paysFrom_51 rfl ?_
              refine y_iaload dX11_paysFrom_53 (fxk_137 hx) (vi (j := i) rfl (by omega) (by decide)) (rI (j := i) (ci rfl (by omega)) ((congrFun hR i).trans (hr i (by omega)))) ?_
              refine y_iastore dX11_paysFrom_54 (fxk_138 hx) (vi (j := i) rfl (by omega) (by decide)) (ci (j := i) rfl (by omega)) ?_
              refine x_iinc (v := (nI (i + 1))) dX11_paysFrom_55 rfl (nI_1 _) (Nat.le_of_ble_eq_true rfl) ?_
              try simp only [xst, xst2, xclr, xset, xwide]
              refine x_goto (tgt := 35) dX11_paysFrom_58 rfl ?_
              exact ih35 (i + 1) _ (by omega) (xFrs hF) (xFdn hD) ((xup_n (by decide)).trans hR) (by rw [xup_n (by decide)]; exact h24) (by rw [xup_n (by decide)]; exact h25) (fun j hj => by
                rw [xup_at]
                by_cases h : j = i
                · rw [if_pos ⟨rfl, h⟩, h]
                · rw [if_neg (fun z => h z.2)]; exact hT j (by omega)) (by omega)
        exact K35 _ 0 _ (by decide) (xFrs (xFrs xFrm.rf)) (xFdx (xFdx xFd.rf)) (by rw [xup_n (by decide), xup_n (by decide)]) (by rw [xup_at, if_pos ⟨rfl, rfl⟩]) (by rw [xup_at, if_neg (by decide), xup_at, if_pos ⟨rfl, rfl⟩]) (fun j h => absurd h (Nat.not_lt_zero _)) (Nat.lt_succ_self _)

set_option maxHeartbeats 4000000 in
set_option maxRecDepth 100000 in
theorem r_paysFromS {g : xG} {nx : Nat} {sh : Nat → Nat × Nat} {P : Nat → Nat → Option Nat} {I : Nat → Nat → Int32} (hx : xFx sh P) {m : Nat} (ih : xPF g m) {c : Nat} {left coins : Int32} {rows : Nat → Int32} {st : PS} {n0 back : Nat} {w : Nat → Int32} {pu : Nat → Nat} (hc : c + m = 3) (hn0 : n0 ≤ 4) (e0 : I 128 0 = nI n0) (hbk : back ≤ 3) (hW : xPW I w pu) (hr : ∀ j, j < c → I 137 j = rows j) (hS : xBR I st) : xMet g Y_M_paysFrom (m + 1) 0 0 [.ref 127, .int (nI c), .int left, .int coins, .int (nI back)] (nx, sh, P, I) (xPFq nx sh P I c (pyL w (bkN n0 back) pu (m + 1) c left coins rows st)) := by
  refine xMet.of [some (.ref 127), some (.int (nI c)), some (.int left), some (.int coins), some (.int (nI back)), none] (by decide +kernel) (Nat.le_of_ble_eq_true rfl) rfl ?_
  refine x_iload_n dX11_paysFrom_0 rfl ?_
  refine x_iconst (v := 4) dX11_paysFrom_1 (by decide) ?_
  refine x_icmp_ne (tgt := 62) dX11_paysFrom_2 rfl (fun c2 => ?_) (fun c2 => ?_)
  · have hpu := (hW.1 c (by omega)).1
    have hp9 := (hW.1 c (by omega)).2
    have hB3 : bkN n0 back c ≤ 3 := by
      unfold bkN
      by_cases h : c < n0
      · rw [if_pos h]; exact hbk
      · rw [if_neg h]; decide
    have J79 : ∀ (x : Int32) (hxv : x = nI 0 - nI (bkN n0 back c)), xX g Y_M_paysFrom (m + 1) 0 0 (xPFq nx sh P I c (pyL w (bkN n0 back) pu (m + 1) c left coins rows st)) 79 [some (.ref 127), some (.int (nI c)), some (.int left), some (.int coins), some (.int (nI back)), none] [.int x] (nx, sh, P, I) := by
      intro x hxv
      rw [hxv]
      refine x_istore dX11_paysFrom_79 (Nat.le_of_ble_eq_true rfl) ?_
      try simp only [xst, xst2, xclr, xset, xwide]
      have K81 : ∀ (fuel : Nat) (k : Nat) (I2 : Nat → Nat → Int32) (hk : k ≤ (bkN n0 back c) + pu c + 1) (hF : xFrm [127, 137, 138] I I2) (hD : xFd [24, 25] I I2) (hr2 : ∀ j, j < c → I2 137 j = rows j) (hS2 : xBR I2 (pyK (pyF w (bkN n0 back) pu m c left coins rows) k st)), (bkN n0 back c) + pu c + 1 - k < fuel → xX g Y_M_paysFrom (m + 1) 0 0 (xPFq nx sh P I c (pyL w (bkN n0 back) pu (m + 1) c left coins rows st)) 81 [some (.ref 127), some (.int (nI c)), some (.int left), some (.int coins), some (.int (nI back)), some (.int (nI k - nI (bkN n0 back c)))] [] (nx, sh, P, I2) := by
        intro fuel
        induction fuel with
        | zero => intro k I2 hk hF hD hr2 hS2 hm; exact absurd hm (Nat.not_lt_zero _)
        | succ fuel ih81 =>
          intro k I2 hk hF hD hr2 hS2 hm
          refine x_iload dX11_paysFrom_81 rfl ?_
          have e128 : I2 128 = I 128 := hF 128 (by decide)
          have e136 : I2 136 = I 136 := hF 136 (by decide)
          have e132 : I2 132 = I 132 := hF 132 (by decide)
          refine x_aload_n dX11_paysFrom_83 rfl ?_
          refine y_getr dX11_paysFrom_84 F_M_37 (fxo_127 hx) rfl (fxp_127_20 hx) ?_
          refine x_iload_n dX11_paysFrom_87 rfl ?_
          refine y_iaload dX11_paysFrom_88 (fxk_136 hx) (vi (j := c) rfl (by omega) (by decide)) (rI (j := c) (ci rfl (by omega)) ((congrFun e136 _).trans hpu)) ?_
          refine x_icmp_gt (tgt := 141) dX11_paysFrom_89 rfl (fun c89 => ?_) (fun c89 => ?_)
          · have hke := (nsl (by omega) (by omega) (by omega)).mp c89
            have hie : k = (bkN n0 back c) + pu c + 1 := by omega
            refine x_return dX11_paysFrom_141 rfl ?_
            exact ⟨I2, rfl, rfl, hF, hD, fun j hj => (hr2 j hj).trans (hr j hj).symm, by rw [pyL_s, ← hie]; exact hS2⟩
          · have hkl : k ≤ pu c + (bkN n0 back c) := Nat.le_of_not_lt (fun h => c89 ((nsl (by omega) (by omega) (by omega)).mpr h))
            refine x_aload_n dX11_paysFrom_92 rfl ?_
            refine y_getr dX11_paysFrom_93 F_M_40 (fxo_127 hx) rfl (fxp_127_21 hx) ?_
            refine x_iload_n dX11_paysFrom_96 rfl ?_
            refine x_iload dX11_paysFrom_97 rfl ?_
            refine y_iastore dX11_paysFrom_99 (fxk_137 hx) (vi (j := c) rfl (by omega) (by decide)) (ci (j := c) rfl (by omega)) ?_
            refine x_aload_n dX11_paysFrom_100 rfl ?_
            refine x_iload_n dX11_paysFrom_101 rfl ?_
            refine x_iconst (v := 1) dX11_paysFrom_102 (by decide) ?_
            refine x_iadd dX11_paysFrom_103 ?_
            rw [nI_1]
            refine x_iload_n dX11_paysFrom_104 rfl ?_
            refine x_iload dX11_paysFrom_105 rfl ?_
            refine x_aload_n dX11_paysFrom_107 rfl ?_
            refine y_getr dX11_paysFrom_108 F_M_25 (fxo_127 hx) rfl (fxp_127_11 hx) ?_
            refine x_iload_n dX11_paysFrom_111 rfl ?_
            refine y_iaload dX11_paysFrom_112 (fxk_132 hx) (vi (j := c) rfl (by omega) (by decide)) (rI (j := c) (ci rfl (by omega)) ((congrFun (xup_n (by decide)) _).trans ((congrFun e132 _).trans (hW.2 c (by omega))))) ?_
            refine x_imul dX11_paysFrom_113 ?_
            refine x_isub dX11_paysFrom_114 ?_
            have J129 : ∀ (x : Int32) (hxv : x = abI (nI k - nI (bkN n0 back c))), xX g Y_M_paysFrom (m + 1) 0 0 (xPFq nx sh P I c (pyL w (bkN n0 back) pu (m + 1) c left coins rows st)) 129 [some (.ref 127), some (.int (nI c)), some (.int left), some (.int coins), some (.int (nI back)), some (.int (nI k - nI (bkN n0 back c)))] [.int x, .int coins, .int (left - (nI k - nI (bkN n0 back c)) * w c), .int (nI (c + 1)), .ref 127] (nx, sh, P, xup I2 137 c (nI k - nI (bkN n0 back c))) := by
              intro x hxv
              rw [hxv]
              refine x_iadd dX11_paysFrom_129 ?_
              refine x_iload dX11_paysFrom_130 rfl ?_
              refine x_callV (k2 := 0) (n2 := 0) dX11_paysFrom_132 LV_M_239 (ih nx sh P (xup I2 137 c (nI k - nI (bkN n0 back c))) (c + 1) (left - (nI k - nI (bkN n0 back c)) * w c) (coins + abI (nI k - nI (bkN n0 back c))) (upd rows c (nI k - nI (bkN n0 back c))) (pyK (pyF w (bkN n0 back) pu m c left coins rows) k st) n0 back w pu hx (by omega) hn0 (by rw [xup_n (by decide), e128]; exact e0) hbk (by unfold xPW; rw [xup_n (by decide), xup_n (by decide), e136, e132]; exact hW) (fun j hj => by rw [xup_at]; unfold upd; by_cases h : j = c; rw [if_pos ⟨rfl, h⟩, if_pos h]; rw [if_neg (fun z => h z.2), if_neg h]; exact hr2 j (by omega)) ⟨by rw [xup_n (by decide)]; exact hS2.1, by rw [xup_n (by decide)]; exact hS2.2.1, fun j hj => by rw [xup_n (by decide)]; exact hS2.2.2 j hj⟩) rfl rfl (fxo_127 hx) rfl (Nat.le_refl _) (Nat.le_of_ble_eq_true rfl) (Nat.le_of_ble_eq_true rfl) (Nat.le_of_ble_eq_true rfl) ?_
              rintro _ _ ⟨I4, rfl, rfl, hF4, hD4, hr4, hS4⟩
              refine x_iinc (v := (nI (k + 1) - nI (bkN n0 back c))) dX11_paysFrom_135 rfl nsb (Nat.le_of_ble_eq_true rfl) ?_
              try simp only [xst, xst2, xclr, xset, xwide]
              refine x_goto (tgt := 81) dX11_paysFrom_138 rfl ?_
              exact ih81 (k + 1) I4 (by omega) ((xFrs hF).tr hF4) (xFd.tr (l := [24, 25]) (xFdn hD) hD4) (fun j hj => (hr4 j (by omega)).trans ((xup_at.trans (if_neg (by omega))).trans (hr2 j hj))) hS4 (by omega)
            refine x_iload_n dX11_paysFrom_115 rfl ?_
            refine x_iload dX11_paysFrom_116 rfl ?_
            refine x_if_ge (tgt := 127) dX11_paysFrom_118 rfl (fun c118 => ?_) (fun c118 => ?_)
            · refine x_iload dX11_paysFrom_127 rfl ?_
              first | exact J129 _ (by unfold abI; rw [if_pos (Int32.not_le.mp c118)]) | exact J129 _ (by unfold abI; rw [if_neg (Int32.not_lt.mpr c118)])
            · refine x_iload dX11_paysFrom_121 rfl ?_
              refine x_ineg dX11_paysFrom_123 ?_
              refine x_goto (tgt := 129) dX11_paysFrom_124 rfl ?_
              first | exact J129 _ (by unfold abI; rw [if_pos (Int32.not_le.mp c118)]) | exact J129 _ (by unfold abI; rw [if_neg (Int32.not_lt.mpr c118)])
      exact K81 _ 0 I (Nat.zero_le _) xFrm.rf xFd.rf hr hS (Nat.lt_succ_self _)
    refine x_iload_n dX11_paysFrom_62 rfl ?_
    refine x_aload_n dX11_paysFrom_63 rfl ?_
    refine y_getr dX11_paysFrom_64 F_M_9 (fxo_127 hx) rfl (fxp_127_1 hx) ?_
    refine x_iconst (v := 0) dX11_paysFrom_67 (by decide) ?_
    refine y_iaload dX11_paysFrom_68 (fxk_128 hx) (vi (j := 0) rfl (by omega) (by decide)) (rI (j := 0) rfl e0) ?_
    refine x_icmp_ge (tgt := 78) dX11_paysFrom_69 rfl (fun c69 => ?_) (fun c69 => ?_)
    · have hge : n0 ≤ c := (nI_leI (by omega) (by omega)).mp c69
      refine x_iconst (v := 0) dX11_paysFrom_78 (by decide) ?_
      first | exact J79 _ (by unfold bkN; rw [if_pos hlt]; exact (Int32.zero_sub _).symm) | exact J79 _ (by unfold bkN; rw [if_neg (Nat.not_lt.mpr hge)]; rfl)
    · have hlt : c < n0 := Nat.lt_of_not_le (fun h => c69 ((nI_leI (by omega) (by omega)).mpr h))
      refine x_iload dX11_paysFrom_72 rfl ?_
      refine x_ineg dX11_paysFrom_74 ?_
      refine x_goto (tgt := 79) dX11_paysFrom_75 rfl ?_
      first | exact J79 _ (by unfold bkN; rw [if_pos hlt]; exact (Int32.zero_sub _).symm) | exact J79 _ (by unfold bkN; rw [if_neg (Nat.not_lt.mpr hge)]; rfl)
  · exact absurd c2 (fun z => by have h9 := nI_lt (a := c) (b := 4) (by omega) (by decide); rw [z] at h9; exact absurd h9 (by decide))

theorem r_paysFrom {g : xG} : ∀ m, xPF g m
  | 0 => fun _ _ _ _ _ _ _ _ _ _ _ _ _ hx hc hn e0 hbk hW hr hS => r_paysFrom0 hx (by omega) hn e0 hbk hW hr hS
  | m + 1 => fun _ _ _ _ _ _ _ _ _ _ _ _ _ hx hc hn e0 hbk hW hr hS => r_paysFromS hx (r_paysFrom m) (by omega) hn e0 hbk hW hr hS
