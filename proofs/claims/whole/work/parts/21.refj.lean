/-! the reference: carrying -/
theorem lcmpE {x y : Int64} : lg_cmp x y = 0 ↔ x = y := by
  unfold lg_cmp
  by_cases h1 : x > y
  · rw [if_pos h1]
    constructor
    · intro h; exact absurd h (by decide)
    · intro h; rw [h] at h1; exact absurd h1 Int64.lt_irrefl
  · rw [if_neg h1]
    by_cases h2 : x = y
    · rw [if_pos h2]; exact ⟨fun _ => h2, fun _ => rfl⟩
    · rw [if_neg h2]; exact ⟨fun h => absurd h (by decide), fun h => absurd h h2⟩
def spI (w : Int32) (x : Int64) : Nat → Int64
  | 0 => x
  | n + 1 => spI w x n ||| (spI w x n <<< (w.toInt64 &&& 63) &&& 2147483647)
/-- the sums within reach with n coins of worth w more -/
def spS (w : Int32) (x : Int64) (n : Nat) : Int64 := if w < 31 then spI w x n else x
/-- carrying from coin c on -/
def caL (w : Nat → Int32) (lim : Nat → Nat) (all : Int64) : Nat → Nat → Int64 → Int32 → (Nat → Int32) → PS → PS
  | 0, _, set, coins, rows, st => if set &&& all = all ∧ coins < st.1 then (coins, st.2.1, rows) else st
  | m + 1, c, set, coins, rows, st => pyK (fun k st => caL w lim all m (c + 1) (spS (w c) set k) (coins + nI k) (upd rows c (nI k)) st) (lim c + 1) st
def caF (w : Nat → Int32) (lim : Nat → Nat) (all : Int64) (m c : Nat) (set : Int64) (coins : Int32) (rows : Nat → Int32) (k : Nat) (st : PS) : PS := caL w lim all m (c + 1) (spS (w c) set k) (coins + nI k) (upd rows c (nI k)) st
theorem caL_s {w : Nat → Int32} {lim : Nat → Nat} {all set : Int64} {m c : Nat} {coins : Int32} {rows : Nat → Int32} {st : PS} : caL w lim all (m + 1) c set coins rows st = pyK (caF w lim all m c set coins rows) (lim c + 1) st := rfl
theorem caL_E {w : Nat → Int32} {lim : Nat → Nat} {all : Int64} : ∀ m c set coins rows a b, pyE a b → pyE (caL w lim all m c set coins rows a) (caL w lim all m c set coins rows b)
  | 0, c, set, coins, rows, a, b, e => by
    unfold caL
    rw [← e.1]
    by_cases h2 : set &&& all = all ∧ coins < a.1
    · rw [if_pos h2, if_pos h2]; exact ⟨rfl, e.2.1, fun _ => rfl⟩
    · rw [if_neg h2, if_neg h2]; exact e
  | m + 1, c, set, coins, rows, a, b, e => by
    rw [caL_s, caL_s]
    refine pyK_E ?_ _ _ _ e
    intro k x y exy
    exact caL_E m (c + 1) _ _ _ x y exy
def lmN (n0 c : Nat) : Nat := if c < n0 then 6 else 0
def xCF (g : xG) (m : Nat) : Prop := ∀ (nx : Nat) (sh : Nat → Nat × Nat) (P : Nat → Nat → Option Nat) (I : Nat → Nat → Int32) (c : Nat) (set all : Int64) (coins : Int32) (rows : Nat → Int32) (st : PS) (n0 : Nat) (w : Nat → Int32), xFx sh P → c + m = 4 → n0 ≤ 4 → I 128 0 = nI n0 → (∀ c, c < 4 → I 132 c = w c) → (∀ j, j < c → I 137 j = rows j) → xBR I st →
  xMet g Y_M_carriesFrom (m + 1) 0 0 [.ref 127, .int (nI c), .long set, .int coins, .long all] (nx, sh, P, I) (xPFq nx sh P I c (caL w (lmN n0) all m c set coins rows st))

set_option maxHeartbeats 4000000 in
set_option maxRecDepth 100000 in
theorem r_spreads {g : xG} {nx : Nat} {sh : Nat → Nat × Nat} {P : Nat → Nat → Option Nat} {I : Nat → Nat → Int32} {set : Int64} {w : Int32} {k : Nat} (hk : k < 2 ^ 31) : xMet g Y_M_spreads 0 0 0 [.long set, .int w, .int (nI k)] (nx, sh, P, I) (fun r σ => r = some (.long (spS w set k)) ∧ σ = (nx, sh, P, I)) := by
  refine xMet.of [some (.long set), none, some (.int w), some (.int (nI k)), none, none, none] (by decide +kernel) (Nat.le_of_ble_eq_true rfl) rfl ?_
  refine x_lload_n dX11_spreads_0 rfl ?_
  refine x_lstore dX11_spreads_1 (Nat.le_of_ble_eq_true rfl) ?_
  try simp only [xst, xst2, xclr, xset, xwide]
  refine x_iconst (v := 0) dX11_spreads_3 (by decide) ?_
  refine x_istore dX11_spreads_4 (Nat.le_of_ble_eq_true rfl) ?_
  try simp only [xst, xst2, xclr, xset, xwide]
  have K6 : ∀ (fuel : Nat) (i : Nat) (x : Int64) (hi : i ≤ k) (hx2 : w < 31 ∨ i = 0) (ha : x = spI w set i), k - i < fuel → xX g Y_M_spreads 0 0 0 (fun r σ => r = some (.long (spS w set k)) ∧ σ = (nx, sh, P, I)) 6 [some (.long set), none, some (.int w), some (.int (nI k)), some (.long x), none, some (.int (nI i))] [] (nx, sh, P, I) := by
    intro fuel
    induction fuel with
    | zero => intro i x hi hx2 ha hm; exact absurd hm (Nat.not_lt_zero _)
    | succ fuel ih6 =>
      intro i x hi hx2 ha hm
      refine x_iload dX11_spreads_6 rfl ?_
      refine x_iload_n dX11_spreads_8 rfl ?_
      refine x_icmp_ge (tgt := 37) dX11_spreads_9 rfl (fun c9 => ?_) (fun c9 => ?_)
      · have hie : i = k := cge_t hk hi c9
        subst hie
        have hfin : spS w set i = x := by
          unfold spS
          rw [ha]
          rcases hx2 with h | h
          · rw [if_pos h]
          · subst h
            by_cases h : w < 31
            · rw [if_pos h]
            · rw [if_neg h]; rfl
        refine x_lload dX11_spreads_37 rfl ?_
        refine x_lreturn dX11_spreads_39 rfl ?_
        exact ⟨by rw [hfin], rfl⟩
      · have him : i < k := cge_f hk hi c9
        refine x_iload_n dX11_spreads_12 rfl ?_
        refine x_bipush (v := 31) dX11_spreads_13 (by decide) ?_
        refine x_icmp_ge (tgt := 37) dX11_spreads_15 rfl (fun c15 => ?_) (fun c15 => ?_)
        · have hfin : spS w set k = x := by
            unfold spS
            rw [if_neg (Int32.not_lt.mpr c15)]
            rcases hx2 with h | h
            · exact absurd h (Int32.not_lt.mpr c15)
            · subst h; rw [ha]; rfl
          refine x_lload dX11_spreads_37 rfl ?_
          refine x_lreturn dX11_spreads_39 rfl ?_
          exact ⟨by rw [hfin], rfl⟩
        · skip
          refine x_lload dX11_spreads_18 rfl ?_
          refine x_lload dX11_spreads_20 rfl ?_
          refine x_iload_n dX11_spreads_22 rfl ?_
          refine x_lshl dX11_spreads_23 ?_
          refine x_ldc2 dX11_spreads_24 K_M_258 ?_
          refine x_land dX11_spreads_27 ?_
          refine x_lor dX11_spreads_28 ?_
          refine x_lstore dX11_spreads_29 (Nat.le_of_ble_eq_true rfl) ?_
          try simp only [xst, xst2, xclr, xset, xwide]
          refine x_iinc (v := (nI (i + 1))) dX11_spreads_31 rfl (nI_1 _) (Nat.le_of_ble_eq_true rfl) ?_
          try simp only [xst, xst2, xclr, xset, xwide]
          refine x_goto (tgt := 6) dX11_spreads_34 rfl ?_
          exact ih6 (i + 1) _ (by omega) (Or.inl (Int32.not_le.mp c15)) (by rw [ha]; rfl) (by omega)
  exact K6 _ 0 set (Nat.zero_le _) (Or.inr rfl) rfl (Nat.lt_succ_self _)

set_option maxHeartbeats 4000000 in
set_option maxRecDepth 100000 in
theorem r_carriesFrom0 {g : xG} {nx : Nat} {sh : Nat → Nat × Nat} {P : Nat → Nat → Option Nat} {I : Nat → Nat → Int32} (hx : xFx sh P) {c : Nat} {set all : Int64} {coins : Int32} {rows : Nat → Int32} {st : PS} {n0 : Nat} {w : Nat → Int32} (hc : c = 4) (hn0 : n0 ≤ 4) (e0 : I 128 0 = nI n0) (hW : ∀ c, c < 4 → I 132 c = w c) (hr : ∀ j, j < c → I 137 j = rows j) (hS : xBR I st) : xMet g Y_M_carriesFrom 1 0 0 [.ref 127, .int (nI c), .long set, .int coins, .long all] (nx, sh, P, I) (xPFq nx sh P I c (caL w (lmN n0) all 0 c set coins rows st)) := by
  refine xMet.of [some (.ref 127), some (.int (nI c)), some (.long set), none, some (.int coins), some (.long all), none, none] (by decide +kernel) (Nat.le_of_ble_eq_true rfl) rfl ?_
  refine x_iload_n dX11_carriesFrom_0 rfl ?_
  refine x_iconst (v := 4) dX11_carriesFrom_1 (by decide) ?_
  refine x_icmp_ne (tgt := 60) dX11_carriesFrom_2 rfl (fun c2 => ?_) (fun c2 => ?_)
  · exact absurd (show nI c = 4 from by rw [show c = 4 by omega]; rfl) c2
  · skip
    refine x_lload_n dX11_carriesFrom_5 rfl ?_
    refine x_lload dX11_carriesFrom_6 rfl ?_
    refine x_land dX11_carriesFrom_8 ?_
    refine x_lload dX11_carriesFrom_9 rfl ?_
    refine x_lcmp dX11_carriesFrom_11 ?_
    refine x_if_ne (tgt := 59) dX11_carriesFrom_12 rfl (fun c12 => ?_) (fun c12 => ?_)
    · refine x_return dX11_carriesFrom_59 rfl ?_
      first | exact ⟨I2, rfl, rfl, hF, hD, fun j _ => congrFun hR j, by unfold caL; rw [if_pos ⟨lcmpE.mp c12, Int32.not_le.mp c21⟩]; exact ⟨h24, h25, hT⟩⟩ | exact ⟨I, rfl, rfl, xFrm.rf, xFd.rf, fun _ _ => rfl, by unfold caL; rw [if_neg (fun h => absurd h.2 (Int32.not_lt.mpr c21))]; exact hS⟩ | exact ⟨I, rfl, rfl, xFrm.rf, xFd.rf, fun _ _ => rfl, by unfold caL; rw [if_neg (fun h => c12 (lcmpE.mpr h.1))]; exact hS⟩
    · refine x_iload dX11_carriesFrom_15 rfl ?_
      refine x_aload_n dX11_carriesFrom_17 rfl ?_
      refine y_geti dX11_carriesFrom_18 F_M_236 (fxo_127 hx) rfl hS.1 ?_
      refine x_icmp_ge (tgt := 59) dX11_carriesFrom_21 rfl (fun c21 => ?_) (fun c21 => ?_)
      · refine x_return dX11_carriesFrom_59 rfl ?_
        first | exact ⟨I2, rfl, rfl, hF, hD, fun j _ => congrFun hR j, by unfold caL; rw [if_pos ⟨lcmpE.mp c12, Int32.not_le.mp c21⟩]; exact ⟨h24, h25, hT⟩⟩ | exact ⟨I, rfl, rfl, xFrm.rf, xFd.rf, fun _ _ => rfl, by unfold caL; rw [if_neg (fun h => absurd h.2 (Int32.not_lt.mpr c21))]; exact hS⟩ | exact ⟨I, rfl, rfl, xFrm.rf, xFd.rf, fun _ _ => rfl, by unfold caL; rw [if_neg (fun h => c12 (lcmpE.mpr h.1))]; exact hS⟩
      · refine x_aload_n dX11_carriesFrom_24 rfl ?_
        refine x_iload dX11_carriesFrom_25 rfl ?_
        refine x_puti dX11_carriesFrom_27 F_M_236 T_11_24 (fxo_127 hx) rfl rfl rfl ?_
        refine x_iconst (v := 0) dX11_carriesFrom_30 (by decide) ?_
        refine x_istore dX11_carriesFrom_31 (Nat.le_of_ble_eq_true rfl) ?_
        try simp only [xst, xst2, xclr, xset, xwide]
        have K33 : ∀ (fuel : Nat) (i : Nat) (I2 : Nat → Nat → Int32) (hi : i ≤ 4) (hF : xFrm [127, 137, 138] I I2) (hD : xFd [24, 25] I I2) (hR : I2 137 = I 137) (h24 : I2 127 24 = coins) (h25 : I2 127 25 = st.2.1) (hT : ∀ j, j < i → I2 138 j = rows j), 4 - i < fuel → xX g Y_M_carriesFrom 1 0 0 (xPFq nx sh P I c (caL w (lmN n0) all 0 c set coins rows st)) 33 [some (.ref 127), some (.int (nI c)), some (.long set), none, some (.int coins), some (.long all), none, some (.int (nI i))] [] (nx, sh, P, I2) := by
          intro fuel
          induction fuel with
          | zero => intro i I2 hi hF hD hR h24 h25 hT hm; exact absurd hm (Nat.not_lt_zero _)
          | succ fuel ih33 =>
            intro i I2 hi hF hD hR h24 h25 hT hm
            refine x_iload dX11_carriesFrom_33 rfl ?_
            refine x_iconst (v := 4) dX11_carriesFrom_35 (by decide) ?_
            refine x_icmp_ge (tgt := 59) dX11_carriesFrom_36 rfl (fun c36 => ?_) (fun c36 => ?_)
            · have hie : i = 4 := cge_t (by decide) hi c36
              subst hie
              refine x_return dX11_carriesFrom_59 rfl ?_
              first | exact ⟨I2, rfl, rfl, hF, hD, fun j _ => congrFun hR j, by unfold caL; rw [if_pos ⟨lcmpE.mp c12, Int32.not_le.mp c21⟩]; exact ⟨h24, h25, hT⟩⟩ | exact ⟨I, rfl, rfl, xFrm.rf, xFd.rf, fun _ _ => rfl, by unfold caL; rw [if_neg (fun h => absurd h.2 (Int32.not_lt.mpr c21))]; exact hS⟩ | exact ⟨I, rfl, rfl, xFrm.rf, xFd.rf, fun _ _ => rfl, by unfold caL; rw [if_neg (fun h => c12 (lcmpE.mpr h.1))]; exact hS⟩
            · have him : i < 4 := cge_f (by decide) hi c36
              refine x_aload_n dX11_carriesFrom_39 rfl ?_
              refine y_getr dX11_carriesFrom_40 F_M_43 (fxo_127 hx) rfl (fxp_127_22 hx) ?_
              refine x_iload dX11_carriesFrom_43 rfl ?_
              refine x_aload_n dX11_carriesFrom_45 rfl ?_
              refine y_getr dX11_carriesFrom_46 F_M_40 (fxo_127 hx) rfl (fxp_127_21 hx) ?_
              refine x_iload dX11_carriesFrom_49 rfl ?_
              refine y_iaload dX11_carriesFrom_51 (fxk_137 hx) (vi (j := i) rfl (by omega) (by decide)) (rI (j := i) (ci rfl (by omega)) ((congrFun hR i).trans (hr i (by omega)))) ?_
              refine y_iastore dX11_carriesFrom_52 (fxk_138 hx) (vi (j := i) rfl (by omega) (by decide)) (ci (j := i) rfl (by omega)) ?_
              refine x_iinc (v := (nI (i + 1))) dX11_carriesFrom_53 rfl (nI_1 _) (Nat.le_of_ble_eq_true rfl) ?_
              try simp only [xst, xst2, xclr, xset, xwide]
              refine x_goto (tgt := 33) dX11_carriesFrom_56 rfl ?_
              exact ih33 (i + 1) _ (by omega) (xFrs hF) (xFdn hD) ((xup_n (by decide)).trans hR) (by rw [xup_n (by decide)]; exact h24) (by rw [xup_n (by decide)]; exact h25) (fun j hj => by
                rw [xup_at]
                by_cases h : j = i
                · rw [if_pos ⟨rfl, h⟩, h]
                · rw [if_neg (fun z => h z.2)]; exact hT j (by omega)) (by omega)
        exact K33 _ 0 _ (by decide) (xFrs xFrm.rf) (xFdx xFd.rf) (by rw [xup_n (by decide)]) (by rw [xup_at, if_pos ⟨rfl, rfl⟩]) (by rw [xup_at, if_neg (by decide)]; exact hS.2.1) (fun j h => absurd h (Nat.not_lt_zero _)) (Nat.lt_succ_self _)

set_option maxHeartbeats 4000000 in
set_option maxRecDepth 100000 in
theorem r_carriesFromS {g : xG} {nx : Nat} {sh : Nat → Nat × Nat} {P : Nat → Nat → Option Nat} {I : Nat → Nat → Int32} (hx : xFx sh P) {m : Nat} (ih : xCF g m) {c : Nat} {set all : Int64} {coins : Int32} {rows : Nat → Int32} {st : PS} {n0 : Nat} {w : Nat → Int32} (hc : c + m = 3) (hn0 : n0 ≤ 4) (e0 : I 128 0 = nI n0) (hW : ∀ c, c < 4 → I 132 c = w c) (hr : ∀ j, j < c → I 137 j = rows j) (hS : xBR I st) : xMet g Y_M_carriesFrom (m + 1 + 1) 0 0 [.ref 127, .int (nI c), .long set, .int coins, .long all] (nx, sh, P, I) (xPFq nx sh P I c (caL w (lmN n0) all (m + 1) c set coins rows st)) := by
  refine xMet.of [some (.ref 127), some (.int (nI c)), some (.long set), none, some (.int coins), some (.long all), none, none] (by decide +kernel) (Nat.le_of_ble_eq_true rfl) rfl ?_
  refine x_iload_n dX11_carriesFrom_0 rfl ?_
  refine x_iconst (v := 4) dX11_carriesFrom_1 (by decide) ?_
  refine x_icmp_ne (tgt := 60) dX11_carriesFrom_2 rfl (fun c2 => ?_) (fun c2 => ?_)
  · have hB3 : lmN n0 c ≤ 6 := by
      unfold lmN
      by_cases h : c < n0
      · rw [if_pos h]; decide
      · rw [if_neg h]; decide
    refine x_iconst (v := 0) dX11_carriesFrom_60 (by decide) ?_
    refine x_istore dX11_carriesFrom_61 (Nat.le_of_ble_eq_true rfl) ?_
    try simp only [xst, xst2, xclr, xset, xwide]
    have K63 : ∀ (fuel : Nat) (k : Nat) (I2 : Nat → Nat → Int32) (hk : k ≤ (lmN n0 c) + 1) (hF : xFrm [127, 137, 138] I I2) (hD : xFd [24, 25] I I2) (hr2 : ∀ j, j < c → I2 137 j = rows j) (hS2 : xBR I2 (pyK (caF w (lmN n0) all m c set coins rows) k st)), (lmN n0 c) + 1 - k < fuel → xX g Y_M_carriesFrom (m + 1 + 1) 0 0 (xPFq nx sh P I c (caL w (lmN n0) all (m + 1) c set coins rows st)) 63 [some (.ref 127), some (.int (nI c)), some (.long set), none, some (.int coins), some (.long all), none, some (.int (nI k))] [] (nx, sh, P, I2) := by
      intro fuel
      induction fuel with
      | zero => intro k I2 hk hF hD hr2 hS2 hm; exact absurd hm (Nat.not_lt_zero _)
      | succ fuel ih63 =>
        intro k I2 hk hF hD hr2 hS2 hm
        refine x_iload dX11_carriesFrom_63 rfl ?_
        have e128 : I2 128 = I 128 := hF 128 (by decide)
        have e132 : I2 132 = I 132 := hF 132 (by decide)
        have J81 : ∀ (x : Int32) (hxv : x = nI (lmN n0 c)), xX g Y_M_carriesFrom (m + 1 + 1) 0 0 (xPFq nx sh P I c (caL w (lmN n0) all (m + 1) c set coins rows st)) 81 [some (.ref 127), some (.int (nI c)), some (.long set), none, some (.int coins), some (.long all), none, some (.int (nI k))] [.int x, .int (nI k)] (nx, sh, P, I2) := by
          intro x hxv
          rw [hxv]
          refine x_icmp_gt (tgt := 124) dX11_carriesFrom_81 rfl (fun c81 => ?_) (fun c81 => ?_)
          · have hke := (nI_ltI (by omega) (by omega)).mp c81
            have hie : k = (lmN n0 c) + 1 := by omega
            refine x_return dX11_carriesFrom_124 rfl ?_
            exact ⟨I2, rfl, rfl, hF, hD, fun j hj => (hr2 j hj).trans (hr j hj).symm, by rw [caL_s, ← hie]; exact hS2⟩
          · have hkl : k ≤ (lmN n0 c) := Nat.le_of_not_lt (fun h => c81 ((nI_ltI (by omega) (by omega)).mpr h))
            refine x_aload_n dX11_carriesFrom_84 rfl ?_
            refine y_getr dX11_carriesFrom_85 F_M_40 (fxo_127 hx) rfl (fxp_127_21 hx) ?_
            refine x_iload_n dX11_carriesFrom_88 rfl ?_
            refine x_iload dX11_carriesFrom_89 rfl ?_
            refine y_iastore dX11_carriesFrom_91 (fxk_137 hx) (vi (j := c) rfl (by omega) (by decide)) (ci (j := c) rfl (by omega)) ?_
            refine x_aload_n dX11_carriesFrom_92 rfl ?_
            refine x_iload_n dX11_carriesFrom_93 rfl ?_
            refine x_iconst (v := 1) dX11_carriesFrom_94 (by decide) ?_
            refine x_iadd dX11_carriesFrom_95 ?_
            rw [nI_1]
            refine x_lload_n dX11_carriesFrom_96 rfl ?_
            refine x_aload_n dX11_carriesFrom_97 rfl ?_
            refine y_getr dX11_carriesFrom_98 F_M_25 (fxo_127 hx) rfl (fxp_127_11 hx) ?_
            refine x_iload_n dX11_carriesFrom_101 rfl ?_
            refine y_iaload dX11_carriesFrom_102 (fxk_132 hx) (vi (j := c) rfl (by omega) (by decide)) (rI (j := c) (ci rfl (by omega)) ((congrFun (xup_n (by decide)) _).trans ((congrFun e132 _).trans (hW c (by omega))))) ?_
            refine x_iload dX11_carriesFrom_103 rfl ?_
            refine x_callS (k2 := 0) (n2 := 0) dX11_carriesFrom_105 LS_M_260 (r_spreads (k := k) (by omega)) rfl rfl (Nat.succ_le_succ (Nat.zero_le _)) (Nat.le_of_ble_eq_true rfl) (Nat.le_of_ble_eq_true rfl) (Nat.le_of_ble_eq_true rfl) ?_
            rintro _ _ ⟨rfl, rfl⟩
            refine x_iload dX11_carriesFrom_108 rfl ?_
            refine x_iload dX11_carriesFrom_110 rfl ?_
            refine x_iadd dX11_carriesFrom_112 ?_
            refine x_lload dX11_carriesFrom_113 rfl ?_
            refine x_callV (k2 := 0) (n2 := 0) dX11_carriesFrom_115 LV_M_264 (ih nx sh P (xup I2 137 c (nI k)) (c + 1) (spS (w c) set k) all (coins + nI k) (upd rows c (nI k)) (pyK (caF w (lmN n0) all m c set coins rows) k st) n0 w hx (by omega) hn0 (by rw [xup_n (by decide), e128]; exact e0) (by rw [xup_n (by decide), e132]; exact hW) (fun j hj => by rw [xup_at]; unfold upd; by_cases h : j = c; rw [if_pos ⟨rfl, h⟩, if_pos h]; rw [if_neg (fun z => h z.2), if_neg h]; exact hr2 j (by omega)) ⟨by rw [xup_n (by decide)]; exact hS2.1, by rw [xup_n (by decide)]; exact hS2.2.1, fun j hj => by rw [xup_n (by decide)]; exact hS2.2.2 j hj⟩) rfl rfl (fxo_127 hx) rfl (Nat.le_refl _) (Nat.le_of_ble_eq_true rfl) (Nat.le_of_ble_eq_true rfl) (Nat.le_of_ble_eq_true rfl) ?_
            rintro _ _ ⟨I4, rfl, rfl, hF4, hD4, hr4, hS4⟩
            refine x_iinc (v := (nI (k + 1))) dX11_carriesFrom_118 rfl (nI_1 _) (Nat.le_of_ble_eq_true rfl) ?_
            try simp only [xst, xst2, xclr, xset, xwide]
            refine x_goto (tgt := 63) dX11_carriesFrom_121 rfl ?_
            exact ih63 (k + 1) I4 (by omega) ((xFrs hF).tr hF4) (xFd.tr (l := [24, 25]) (xFdn hD) hD4) (fun j hj => (hr4 j (by omega)).trans ((xup_at.trans (if_neg (by omega))).trans (hr2 j hj))) hS4 (by omega)
        refine x_iload_n dX11_carriesFrom_65 rfl ?_
        refine x_aload_n dX11_carriesFrom_66 rfl ?_
        refine y_getr dX11_carriesFrom_67 F_M_9 (fxo_127 hx) rfl (fxp_127_1 hx) ?_
        refine x_iconst (v := 0) dX11_carriesFrom_70 (by decide) ?_
        refine y_iaload dX11_carriesFrom_71 (fxk_128 hx) (vi (j := 0) rfl (by omega) (by decide)) (rI (j := 0) rfl ((congrFun e128 _).trans e0)) ?_
        refine x_icmp_ge (tgt := 80) dX11_carriesFrom_72 rfl (fun c72 => ?_) (fun c72 => ?_)
        · have hge : n0 ≤ c := (nI_leI (by omega) (by omega)).mp c72
          refine x_iconst (v := 0) dX11_carriesFrom_80 (by decide) ?_
          first | exact J81 _ (by unfold lmN; rw [if_pos hlt]; rfl) | exact J81 _ (by unfold lmN; rw [if_neg (Nat.not_lt.mpr hge)]; rfl)
        · have hlt : c < n0 := Nat.lt_of_not_le (fun h => c72 ((nI_leI (by omega) (by omega)).mpr h))
          refine x_bipush (v := 6) dX11_carriesFrom_75 (by decide) ?_
          refine x_goto (tgt := 81) dX11_carriesFrom_77 rfl ?_
          first | exact J81 _ (by unfold lmN; rw [if_pos hlt]; rfl) | exact J81 _ (by unfold lmN; rw [if_neg (Nat.not_lt.mpr hge)]; rfl)
    exact K63 _ 0 I (Nat.zero_le _) xFrm.rf xFd.rf hr hS (Nat.lt_succ_self _)
  · exact absurd c2 (fun z => by have h9 := nI_lt (a := c) (b := 4) (by omega) (by decide); rw [z] at h9; exact absurd h9 (by decide))

theorem r_carriesFrom {g : xG} : ∀ m, xCF g m
  | 0 => fun _ _ _ _ _ _ _ _ _ _ _ _ hx hc hn e0 hW hr hS => r_carriesFrom0 hx (by omega) hn e0 hW hr hS
  | m + 1 => fun _ _ _ _ _ _ _ _ _ _ _ _ hx hc hn e0 hW hr hS => r_carriesFromS hx (r_carriesFrom m) (by omega) hn e0 hW hr hS
/-- all the sums from 1 to n -/
def alN (n : Int32) : Int64 := 1 <<< ((n + 1).toInt64 &&& 63) - 1
def caA (s : Nat → Int32) (n : Int32) : PS := caL (wv s) (lmN (cN s 0)) (alN n) 4 0 1 0 (fun _ => 0) (1000000, 0, fun _ => 0)
def a_carry (s : Nat → Int32) (n k : Int32) : Int32 := if -1 ≤ k ∧ k ≤ 3 then (if 1 ≤ n ∧ n ≤ 30 then (if (caA s n).1 = 1000000 ∨ s 0 ≤ k then -5 else if k = -1 then (caA s n).1 else (caA s n).2.2 k.toNatClampNeg) else -2) else -1
/-- the middle part plays no part -/
def pyG (a b : PS) : Prop := a.1 = b.1 ∧ a.2.2 = b.2.2
theorem pyK_G {f g : Nat → PS → PS} (h : ∀ k a b, pyG a b → pyG (f k a) (g k b)) : ∀ k a b, pyG a b → pyG (pyK f k a) (pyK g k b)
  | 0, _, _, e => e
  | k + 1, a, b, e => h k _ _ (pyK_G h k a b e)
theorem caL_F {w : Nat → Int32} {lim : Nat → Nat} {all : Int64} : ∀ m c set coins rows a b, pyG a b → pyG (caL w lim all m c set coins rows a) (caL w lim all m c set coins rows b)
  | 0, c, set, coins, rows, a, b, e => by
    unfold caL
    rw [← e.1]
    by_cases h2 : set &&& all = all ∧ coins < a.1
    · rw [if_pos h2, if_pos h2]; exact ⟨rfl, rfl⟩
    · rw [if_neg h2, if_neg h2]; exact e
  | m + 1, c, set, coins, rows, a, b, e => by
    rw [caL_s, caL_s]
    refine pyK_G ?_ _ _ _ e
    intro k x y exy
    exact caL_F m (c + 1) _ _ _ x y exy

set_option maxHeartbeats 4000000 in
set_option maxRecDepth 100000 in
theorem r_carry {g : xG} {nx : Nat} {sh : Nat → Nat × Nat} {P : Nat → Nat → Option Nat} {I : Nat → Nat → Int32} (hx : xFx sh P) {n k : Int32} (hR : RI (I 128)) : xMet g Y_M_carry 6 0 0 [.ref 127, .int n, .int k] (nx, sh, P, I) (fun r σ => ∃ I1 : Nat → Nat → Int32, r = some (.int (a_carry (I 128) n k)) ∧ σ = (nx, sh, P, I1) ∧ xFrm [127, 130, 131, 132, 137, 138] I I1 ∧ xFd [24, 25] I I1) := by
  refine xMet.of [some (.ref 127), some (.int n), some (.int k)] (by decide +kernel) (Nat.le_of_ble_eq_true rfl) rfl ?_
  obtain ⟨⟨n0, b0, e0⟩, ⟨n1, b1, e1⟩, ⟨n2, b2, e2⟩, ⟨n3, b3, e3⟩, ⟨n4, b4, e4⟩, ⟨n5, b5, e5⟩, ⟨n6, b6, e6⟩, ⟨n7, b7, e7⟩, ⟨n9, b9, e9⟩⟩ := hR.k
  refine x_iload_n dX11_carry_0 rfl ?_
  refine x_iconst (v := (-1)) dX11_carry_1 (by decide) ?_
  refine x_iconst (v := 3) dX11_carry_2 (by decide) ?_
  refine x_callS (k2 := 0) (n2 := 0) dX11_carry_3 LS_M_65 r_in rfl rfl (Nat.le_of_ble_eq_true rfl) (Nat.le_of_ble_eq_true rfl) (Nat.le_of_ble_eq_true rfl) (Nat.le_of_ble_eq_true rfl) ?_
  rintro _ _ ⟨rfl, rfl⟩
  refine x_if_ne (tgt := 11) dX11_carry_6 rfl (fun c6 => ?_) (fun c6 => ?_)
  · refine x_iload_n dX11_carry_11 rfl ?_
    refine x_iconst (v := 1) dX11_carry_12 (by decide) ?_
    refine x_bipush (v := 30) dX11_carry_13 (by decide) ?_
    refine x_callS (k2 := 0) (n2 := 0) dX11_carry_15 LS_M_65 r_in rfl rfl (Nat.le_of_ble_eq_true rfl) (Nat.le_of_ble_eq_true rfl) (Nat.le_of_ble_eq_true rfl) (Nat.le_of_ble_eq_true rfl) ?_
    rintro _ _ ⟨rfl, rfl⟩
    refine x_if_ne (tgt := 24) dX11_carry_18 rfl (fun c18 => ?_) (fun c18 => ?_)
    · refine x_aload_n dX11_carry_24 rfl ?_
      refine x_callV (k2 := 0) (n2 := 0) dX11_carry_25 LV_M_165 (r_looksForWorths hx hR) rfl rfl (fxo_127 hx) rfl (Nat.le_of_ble_eq_true rfl) (Nat.le_of_ble_eq_true rfl) (Nat.le_of_ble_eq_true rfl) (Nat.le_of_ble_eq_true rfl) ?_
      rintro _ _ ⟨I1, rfl, rfl, hF, hW⟩
      have e128 : I1 128 = I 128 := hF 128 (by decide)
      refine x_aload_n dX11_carry_28 rfl ?_
      refine x_ldc dX11_carry_29 KI_X11_180 ?_
      refine x_puti dX11_carry_31 F_M_236 T_11_24 (fxo_127 hx) rfl rfl rfl ?_
      refine x_aload_n dX11_carry_34 rfl ?_
      refine x_iconst (v := 0) dX11_carry_35 (by decide) ?_
      refine x_lconst (v := 1) dX11_carry_36 (by decide) ?_
      refine x_iconst (v := 0) dX11_carry_37 (by decide) ?_
      refine x_lconst (v := 1) dX11_carry_38 (by decide) ?_
      refine x_iload_n dX11_carry_39 rfl ?_
      refine x_iconst (v := 1) dX11_carry_40 (by decide) ?_
      refine x_iadd dX11_carry_41 ?_
      refine x_lshl dX11_carry_42 ?_
      refine x_lconst (v := 1) dX11_carry_43 (by decide) ?_
      refine x_lsub dX11_carry_44 ?_
      rw [show (1 : Int64) <<< ((n + 1).toInt64 &&& 63) - 1 = alN n from rfl]
      refine x_callV (k2 := 0) (n2 := 0) dX11_carry_45 LV_M_264 (r_carriesFrom 4 nx sh P (xup I1 127 24 1000000) 0 1 (alN n) 0 (fun _ => 0) (1000000, I1 127 25, I1 138) (cN (I 128) 0) (wv (I 128)) hx rfl hR.c0.2 (by rw [xup_n (by decide), e128]; exact hR.c0.1) (fun c hc => (congrFun (xup_n (by decide)) c).trans (hW c hc)) (fun j hj => absurd hj (Nat.not_lt_zero _)) ⟨by rw [xup_at, if_pos ⟨rfl, rfl⟩], by rw [xup_at, if_neg (by decide)], fun k hk => by rw [xup_n (by decide)]⟩) rfl rfl (fxo_127 hx) rfl (Nat.le_of_ble_eq_true rfl) (Nat.le_of_ble_eq_true rfl) (Nat.le_of_ble_eq_true rfl) (Nat.le_of_ble_eq_true rfl) ?_
      rintro _ _ ⟨I4, rfl, rfl, hF4, hD4, -, hS4⟩
      have hFF : xFrm [127, 130, 131, 132, 137, 138] I I4 := (xFrs (hF.mono (l := [127, 130, 131, 132, 137, 138]))).tr hF4
      have hDD : xFd [24, 25] I I4 := xFd.tr (l1 := [24, 25]) (xFdx (xFd.of hF)) hD4
      have f128 : I4 128 = I 128 := hFF 128 (by decide)
      have hE := caL_E (w := wv (I 128)) (lim := lmN (cN (I 128) 0)) (all := alN n) 4 0 1 0 (fun _ => 0) (1000000, I1 127 25, I1 138) (1000000, I1 127 25, fun _ => 0) ⟨rfl, rfl, fun h => absurd rfl h⟩
      have hE2 := caL_F (w := wv (I 128)) (lim := lmN (cN (I 128) 0)) (all := alN n) 4 0 1 0 (fun _ => 0) (1000000, I1 127 25, fun _ => 0) (1000000, 0, fun _ => 0) ⟨rfl, rfl⟩
      have h24 : I4 127 24 = (caA (I 128) n).1 := (hS4.1.trans hE.1).trans hE2.1
      have h138 : ¬ (caA (I 128) n).1 = 1000000 → ∀ k, k < 4 → I4 138 k = (caA (I 128) n).2.2 k := fun h k hk => (hS4.2.2 k hk).trans ((congrFun (hE.2.2 (by rw [hE.1, hE2.1]; exact h)) k).trans (congrFun hE2.2 k))
      refine x_aload_n dX11_carry_48 rfl ?_
      refine y_geti dX11_carry_49 F_M_236 (fxo_127 hx) rfl h24 ?_
      refine x_ldc dX11_carry_52 KI_X11_180 ?_
      refine x_icmp_eq (tgt := 67) dX11_carry_54 rfl (fun c54 => ?_) (fun c54 => ?_)
      · refine x_bipush (v := (-5)) dX11_carry_67 (by decide) ?_
        refine x_ireturn dX11_carry_69 rfl nb_int ?_
        first | exact ⟨I4, by unfold a_carry; rw [if_pos (b_t c6), if_pos (b_t c18), if_pos (Or.inl c54)], rfl, hFF, hDD⟩ | exact ⟨I4, by unfold a_carry; rw [if_pos (b_t c6), if_pos (b_t c18), if_pos (Or.inr (by rw [e0]; exact Int32.not_lt.mp c64))], rfl, hFF, hDD⟩
      · refine x_iload_n dX11_carry_57 rfl ?_
        refine x_aload_n dX11_carry_58 rfl ?_
        refine y_getr dX11_carry_59 F_M_9 (fxo_127 hx) rfl (fxp_127_1 hx) ?_
        refine x_iconst (v := 0) dX11_carry_62 (by decide) ?_
        refine y_iaload dX11_carry_63 (fxk_128 hx) (vi (j := 0) rfl (by omega) (by decide)) (rI (j := 0) rfl ((congrFun f128 _).trans e0)) ?_
        refine x_icmp_lt (tgt := 70) dX11_carry_64 rfl (fun c64 => ?_) (fun c64 => ?_)
        · refine x_iload_n dX11_carry_70 rfl ?_
          refine x_iconst (v := (-1)) dX11_carry_71 (by decide) ?_
          refine x_icmp_ne (tgt := 82) dX11_carry_72 rfl (fun c72 => ?_) (fun c72 => ?_)
          · obtain ⟨z, hz, rfl⟩ : ∃ z, z < 4 ∧ k = nI z := by
              obtain ⟨z, hz, e⟩ := i_2 (i := k) (n := 4) (by decide) (by have h9 := b_t c6; exact ⟨by have h8 := h9.1; have : ¬ k = -1 := c72; grind, Int32.lt_of_le_of_lt h9.2 (by decide)⟩)
              exact ⟨z, hz, e⟩
            refine x_aload_n dX11_carry_82 rfl ?_
            refine y_getr dX11_carry_83 F_M_43 (fxo_127 hx) rfl (fxp_127_22 hx) ?_
            refine x_iload_n dX11_carry_86 rfl ?_
            refine y_iaload dX11_carry_87 (fxk_138 hx) (vi (j := z) rfl (by omega) (by decide)) (rI (j := z) (ci rfl (by omega)) (h138 c54 z hz)) ?_
            refine x_ireturn dX11_carry_88 rfl nb_int ?_
            first | exact ⟨I4, by unfold a_carry; rw [if_pos (b_t c6), if_pos (b_t c18), if_neg (fun h => h.elim c54 (fun h => absurd c64 (by rw [e0] at h; exact Int32.not_lt.mpr h))), if_pos c72], rfl, hFF, hDD⟩ | exact ⟨I4, by unfold a_carry; rw [if_pos (b_t c6), if_pos (b_t c18), if_neg (fun h => h.elim c54 (fun h => absurd c64 (by rw [e0] at h; exact Int32.not_lt.mpr h))), if_neg c72, nI_clamp (by omega)], rfl, hFF, hDD⟩
          · refine x_aload_n dX11_carry_75 rfl ?_
            refine y_geti dX11_carry_76 F_M_236 (fxo_127 hx) rfl h24 ?_
            refine x_goto (tgt := 88) dX11_carry_79 rfl ?_
            refine x_ireturn dX11_carry_88 rfl nb_int ?_
            first | exact ⟨I4, by unfold a_carry; rw [if_pos (b_t c6), if_pos (b_t c18), if_neg (fun h => h.elim c54 (fun h => absurd c64 (by rw [e0] at h; exact Int32.not_lt.mpr h))), if_pos c72], rfl, hFF, hDD⟩ | exact ⟨I4, by unfold a_carry; rw [if_pos (b_t c6), if_pos (b_t c18), if_neg (fun h => h.elim c54 (fun h => absurd c64 (by rw [e0] at h; exact Int32.not_lt.mpr h))), if_neg c72, nI_clamp (by omega)], rfl, hFF, hDD⟩
        · refine x_bipush (v := (-5)) dX11_carry_67 (by decide) ?_
          refine x_ireturn dX11_carry_69 rfl nb_int ?_
          first | exact ⟨I4, by unfold a_carry; rw [if_pos (b_t c6), if_pos (b_t c18), if_pos (Or.inl c54)], rfl, hFF, hDD⟩ | exact ⟨I4, by unfold a_carry; rw [if_pos (b_t c6), if_pos (b_t c18), if_pos (Or.inr (by rw [e0]; exact Int32.not_lt.mp c64))], rfl, hFF, hDD⟩
    · refine x_bipush (v := (-2)) dX11_carry_21 (by decide) ?_
      refine x_ireturn dX11_carry_23 rfl nb_int ?_
      exact ⟨I, by unfold a_carry; rw [if_pos (b_t c6), if_neg (b_f c18)], rfl, xFrm.rf, xFd.rf⟩
  · refine x_iconst (v := (-1)) dX11_carry_9 (by decide) ?_
    refine x_ireturn dX11_carry_10 rfl nb_int ?_
    exact ⟨I, by unfold a_carry; rw [if_neg (b_f c6)], rfl, xFrm.rf, xFd.rf⟩
