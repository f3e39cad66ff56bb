/-! the reference: acts -/
/-- bodies that ran, from the r-th on, into the rows tr (their numbers) and ob (how many, at place fk) -/
def xTr (tr ob fk : Nat) (I : Nat → Nat → Int32) (r : Nat) : List Int32 → Nat → Nat → Int32
  | [] => I
  | b :: l => xTr tr ob fk (xup (xup I tr r b) ob fk (nI (r + 1))) (r + 1) l
theorem xTr_app {tr ob fk : Nat} {I : Nat → Nat → Int32} {r : Nat} {l2 : List Int32} : ∀ {l1 : List Int32}, xTr tr ob fk I r (l1 ++ l2) = xTr tr ob fk (xTr tr ob fk I r l1) (r + l1.length) l2
  | [] => rfl
  | b :: l => by
    show xTr tr ob fk _ (r + 1) (l ++ l2) = _
    rw [xTr_app, List.length_cons, show r + (l.length + 1) = r + 1 + l.length by omega]
    rfl
theorem xTr_no {tr ob fk a : Nat} (h1 : a ≠ tr) (h2 : a ≠ ob) : ∀ {l : List Int32} {I : Nat → Nat → Int32} {r : Nat}, xTr tr ob fk I r l a = I a
  | [], I, r => rfl
  | b :: l, I, r => by
    show xTr tr ob fk _ (r + 1) l a = I a
    rw [xTr_no h1 h2, xup_n h2, xup_n h1]
theorem xTr_fo {tr ob fk j : Nat} (h1 : tr ≠ ob) (h2 : j ≠ fk) : ∀ {l : List Int32} {I : Nat → Nat → Int32} {r : Nat}, xTr tr ob fk I r l ob j = I ob j
  | [], I, r => rfl
  | b :: l, I, r => by
    show xTr tr ob fk _ (r + 1) l ob j = I ob j
    rw [xTr_fo h1 h2, xup_at, if_neg (fun z => h2 z.2), xup_n (Ne.symm h1)]
theorem xTr_r {tr ob fk : Nat} (h1 : tr ≠ ob) : ∀ {l : List Int32} {I : Nat → Nat → Int32} {r : Nat}, I ob fk = nI r → xTr tr ob fk I r l ob fk = nI (r + l.length)
  | [], I, r, h => h
  | b :: l, I, r, h => by
    show xTr tr ob fk _ (r + 1) l ob fk = _
    rw [xTr_r h1 (by rw [xup_at, if_pos ⟨rfl, rfl⟩]), List.length_cons, show r + 1 + l.length = r + (l.length + 1) by omega]
theorem xTr_lo {tr ob fk j : Nat} (h1 : tr ≠ ob) : ∀ {l : List Int32} {I : Nat → Nat → Int32} {r : Nat}, j < r → xTr tr ob fk I r l tr j = I tr j
  | [], I, r, _ => rfl
  | b :: l, I, r, h => by
    show xTr tr ob fk _ (r + 1) l tr j = _
    rw [xTr_lo h1 (by omega), xup_n h1, xup_at, if_neg (by omega)]
theorem xTr_in {tr ob fk : Nat} (h1 : tr ≠ ob) : ∀ {l : List Int32} {I : Nat → Nat → Int32} {r j : Nat}, j < l.length → xTr tr ob fk I r l tr (r + j) = l.getD j 0
  | [], I, r, j, h => absurd h (Nat.not_lt_zero j)
  | b :: l, I, r, 0, h => by
    show xTr tr ob fk _ (r + 1) l tr (r + 0) = b
    rw [xTr_lo h1 (by omega), xup_n h1, xup_at, if_pos ⟨rfl, rfl⟩]
  | b :: l, I, r, j + 1, h => by
    show xTr tr ob fk _ (r + 1) l tr (r + (j + 1)) = l.getD j 0
    rw [show r + (j + 1) = r + 1 + j by omega]
    exact xTr_in h1 (by simpa using h)
/-- ACTS: what they answer, the bodies that run -/
def shV (kd num x : Int32) : Int32 := if undr kd 1 = true then x * 3 + num else if kd = 5 then (x + num) ^^^ num else x + num
def shL (kd : Int32) : List Int32 := if undr kd 1 = true then [11, 1] else if kd = 5 then [51, 1] else [1]
def ppV (kd num v x : Int32) : Int32 := shV kd num x - v
def ppL (kd : Int32) : List Int32 := 2 :: shL kd
def paV (kd num v x : Int32) : Int32 := if undr kd 2 = true then -(ppV kd num v x) else if kd = 6 then ppV kd num v x + v else ppV kd num v x
def paL (kd : Int32) : List Int32 := if undr kd 2 = true then 21 :: ppL kd else if kd = 6 then 61 :: ppL kd else ppL kd
def ptV (kd num v x : Int32) : Int32 := paV kd num v x * 2
def ptL (kd : Int32) : List Int32 := 3 :: paL kd
def teV (kd num v x : Int32) : Int32 := if undr kd 3 = true then ptV kd num v x ^^^ 7 else if kd = 4 then ptV kd num v (x - 1) + shV kd num 2 else ptV kd num v x
def teL (kd : Int32) : List Int32 := if undr kd 3 = true then 31 :: ptL kd else if kd = 4 then 41 :: (ptL kd ++ shL kd) else ptL kd
theorem shL_l {kd : Int32} : (shL kd).length ≤ 2 := by
  unfold shL
  split
  · simp
  · split <;> simp
theorem ppL_l {kd : Int32} : (ppL kd).length ≤ 3 := by have := shL_l (kd := kd); unfold ppL; simp only [List.length_cons]; omega
theorem paL_l {kd : Int32} : (paL kd).length ≤ 4 := by
  have := ppL_l (kd := kd)
  unfold paL
  split
  · simp only [List.length_cons]; omega
  · split
    · simp only [List.length_cons]; omega
    · omega
theorem ptL_l {kd : Int32} : (ptL kd).length ≤ 5 := by have := paL_l (kd := kd); unfold ptL; simp only [List.length_cons]; omega
theorem teL_l {kd : Int32} : (teL kd).length ≤ 8 := by
  have := ptL_l (kd := kd)
  have := shL_l (kd := kd)
  unfold teL
  split
  · simp only [List.length_cons]; omega
  · split
    · simp only [List.length_cons, List.length_append]; omega
    · omega

set_option maxHeartbeats 4000000 in
set_option maxRecDepth 100000 in
theorem r_ranBody {g : xG} {nx : Nat} {sh : Nat → Nat × Nat} {P : Nat → Nat → Option Nat} {I : Nat → Nat → Int32} (hx : xFx sh P) {b : Int32} {r : Nat} (hr : I 127 30 = nI r) (hr2 : r < 20) : xMet g Y_M_ranBody 0 0 0 [.ref 127, .int b] (nx, sh, P, I) (fun z σ => z = none ∧ σ = (nx, sh, P, xTr 143 127 30 I r [b])) := by
  refine xMet.of [some (.ref 127), some (.int b)] (by decide +kernel) (Nat.le_of_ble_eq_true rfl) rfl ?_
  refine x_aload_n dX11_ranBody_0 rfl ?_
  refine y_geti dX11_ranBody_1 F_M_278 (fxo_127 hx) rfl hr ?_
  refine x_bipush (v := 20) dX11_ranBody_4 (by decide) ?_
  refine x_icmp_ge (tgt := 19) dX11_ranBody_6 rfl (fun c6 => ?_) (fun c6 => ?_)
  · exact absurd c6 (fun h => absurd ((nI_leI (a := 20) (by decide) (by omega)).mp h) (by omega))
  · refine x_aload_n dX11_ranBody_9 rfl ?_
    refine y_getr dX11_ranBody_10 F_M_58 (fxo_127 hx) rfl (fxp_127_29 hx) ?_
    refine x_aload_n dX11_ranBody_13 rfl ?_
    refine y_geti dX11_ranBody_14 F_M_278 (fxo_127 hx) rfl hr ?_
    refine x_iload_n dX11_ranBody_17 rfl ?_
    refine y_iastore dX11_ranBody_18 (fxk_143 hx) (vi rfl (by omega) (by decide)) (ci rfl (by omega)) ?_
    refine x_aload_n dX11_ranBody_19 rfl ?_
    refine x_dup dX11_ranBody_20 rfl ?_
    refine y_geti dX11_ranBody_21 F_M_278 (fxo_127 hx) rfl ((congrFun (xup_n (by decide)) _).trans hr) ?_
    refine x_iconst (v := 1) dX11_ranBody_24 (by decide) ?_
    refine x_iadd dX11_ranBody_25 ?_
    rw [nI_1]
    refine x_puti dX11_ranBody_26 F_M_278 T_11_30 (fxo_127 hx) rfl rfl rfl ?_
    refine x_return dX11_ranBody_29 rfl ?_
    exact ⟨rfl, rfl⟩

theorem xTr_1 {tr ob fk : Nat} {I : Nat → Nat → Int32} {r : Nat} {b : Int32} {l : List Int32} : xTr tr ob fk (xTr tr ob fk I r [b]) (r + 1) l = xTr tr ob fk I r (b :: l) := rfl

set_option maxHeartbeats 4000000 in
set_option maxRecDepth 100000 in
theorem r_plainShows {g : xG} {nx : Nat} {sh : Nat → Nat × Nat} {P : Nat → Nat → Option Nat} {I : Nat → Nat → Int32} (hx : xFx sh P) {kd num v x : Int32} {r : Nat} (hr : I 127 30 = nI r) (hr2 : r + 1 ≤ 20) (hkd : I 127 31 = kd) (hnum : I 127 32 = num) (hv : I 127 33 = v) : xMet g Y_M_plainShows 1 0 0 [.ref 127, .int x] (nx, sh, P, I) (fun z σ => z = some (.int (x + num)) ∧ σ = (nx, sh, P, xTr 143 127 30 I r ([1]))) := by
  refine xMet.of [some (.ref 127), some (.int x)] (by decide +kernel) (Nat.le_of_ble_eq_true rfl) rfl ?_
  refine x_aload_n dX11_plainShows_0 rfl ?_
  refine x_iconst (v := 1) dX11_plainShows_1 (by decide) ?_
  refine x_callV (k2 := 0) (n2 := 0) dX11_plainShows_2 LV_M_281 (r_ranBody (b := 1) (r := r) hx hr (by omega)) rfl rfl (fxo_127 hx) rfl (Nat.le_of_ble_eq_true rfl) (Nat.le_of_ble_eq_true rfl) (Nat.le_of_ble_eq_true rfl) (Nat.le_of_ble_eq_true rfl) ?_
  rintro _ _ ⟨rfl, rfl⟩
  refine x_iload_n dX11_plainShows_5 rfl ?_
  refine x_aload_n dX11_plainShows_6 rfl ?_
  refine y_geti dX11_plainShows_7 F_M_284 (fxo_127 hx) rfl ((xTr_fo (by decide) (by decide)).trans hnum) ?_
  refine x_iadd dX11_plainShows_10 ?_
  refine x_ireturn dX11_plainShows_11 rfl nb_int ?_
  exact ⟨rfl, rfl⟩

set_option maxHeartbeats 4000000 in
set_option maxRecDepth 100000 in
theorem r_showsActs {g : xG} {nx : Nat} {sh : Nat → Nat × Nat} {P : Nat → Nat → Option Nat} {I : Nat → Nat → Int32} (hx : xFx sh P) {kd num v x : Int32} {r : Nat} (hr : I 127 30 = nI r) (hr2 : r + 2 ≤ 20) (hkd : I 127 31 = kd) (hnum : I 127 32 = num) (hv : I 127 33 = v) : xMet g Y_M_showsActs 2 0 0 [.ref 127, .int x] (nx, sh, P, I) (fun z σ => z = some (.int (shV kd num x)) ∧ σ = (nx, sh, P, xTr 143 127 30 I r (shL kd))) := by
  refine xMet.of [some (.ref 127), some (.int x)] (by decide +kernel) (Nat.le_of_ble_eq_true rfl) rfl ?_
  refine x_aload_n dX11_showsActs_0 rfl ?_
  refine y_geti dX11_showsActs_1 F_M_287 (fxo_127 hx) rfl hkd ?_
  refine x_iconst (v := 1) dX11_showsActs_4 (by decide) ?_
  refine x_callS (k2 := 0) (n2 := 0) dX11_showsActs_5 LS_M_290 r_isUnder rfl rfl (Nat.le_of_ble_eq_true rfl) (Nat.le_of_ble_eq_true rfl) (Nat.le_of_ble_eq_true rfl) (Nat.le_of_ble_eq_true rfl) ?_
  rintro _ _ ⟨rfl, rfl⟩
  refine x_if_eq (tgt := 25) dX11_showsActs_8 rfl (fun c8 => ?_) (fun c8 => ?_)
  · refine x_aload_n dX11_showsActs_25 rfl ?_
    refine y_geti dX11_showsActs_26 F_M_287 (fxo_127 hx) rfl hkd ?_
    refine x_iconst (v := 5) dX11_showsActs_29 (by decide) ?_
    refine x_icmp_ne (tgt := 50) dX11_showsActs_30 rfl (fun c30 => ?_) (fun c30 => ?_)
    · refine x_aload_n dX11_showsActs_50 rfl ?_
      refine x_iload_n dX11_showsActs_51 rfl ?_
      refine x_callV (k2 := 0) (n2 := 0) dX11_showsActs_52 LV_M_294 (r_plainShows (r := r) (x := x) hx hr (by omega) hkd hnum hv) rfl rfl (fxo_127 hx) rfl (Nat.le_of_ble_eq_true rfl) (Nat.le_of_ble_eq_true rfl) (Nat.le_of_ble_eq_true rfl) (Nat.le_of_ble_eq_true rfl) ?_
      rintro _ _ ⟨rfl, rfl⟩
      refine x_ireturn dX11_showsActs_55 rfl nb_int ?_
      exact ⟨by unfold shV; rw [if_neg (by rw [bi_f c8]; decide), if_neg c30], by unfold shL; rw [if_neg (by rw [bi_f c8]; decide), if_neg c30]⟩
    · refine x_aload_n dX11_showsActs_33 rfl ?_
      refine x_bipush (v := 51) dX11_showsActs_34 (by decide) ?_
      refine x_callV (k2 := 0) (n2 := 0) dX11_showsActs_36 LV_M_281 (r_ranBody (b := 51) (r := r) hx hr (by omega)) rfl rfl (fxo_127 hx) rfl (Nat.le_of_ble_eq_true rfl) (Nat.le_of_ble_eq_true rfl) (Nat.le_of_ble_eq_true rfl) (Nat.le_of_ble_eq_true rfl) ?_
      rintro _ _ ⟨rfl, rfl⟩
      refine x_aload_n dX11_showsActs_39 rfl ?_
      refine x_iload_n dX11_showsActs_40 rfl ?_
      refine x_callV (k2 := 0) (n2 := 0) dX11_showsActs_41 LV_M_294 (r_plainShows (I := (xTr 143 127 30 I r [51])) (r := r + 1) (x := x) hx (xTr_r (by decide) hr) (by omega) ((xTr_fo (by decide) (by decide)).trans hkd) ((xTr_fo (by decide) (by decide)).trans hnum) ((xTr_fo (by decide) (by decide)).trans hv)) rfl rfl (fxo_127 hx) rfl (Nat.le_of_ble_eq_true rfl) (Nat.le_of_ble_eq_true rfl) (Nat.le_of_ble_eq_true rfl) (Nat.le_of_ble_eq_true rfl) ?_
      rintro _ _ ⟨rfl, rfl⟩
      refine x_aload_n dX11_showsActs_44 rfl ?_
      refine y_geti dX11_showsActs_45 F_M_284 (fxo_127 hx) rfl ((xTr_fo (by decide) (by decide)).trans ((xTr_fo (by decide) (by decide)).trans hnum)) ?_
      refine x_ixor dX11_showsActs_48 ?_
      refine x_ireturn dX11_showsActs_49 rfl nb_int ?_
      exact ⟨by unfold shV; rw [if_neg (by rw [bi_f c8]; decide), if_pos c30], by unfold shL; rw [if_neg (by rw [bi_f c8]; decide), if_pos c30]; rfl⟩
  · refine x_aload_n dX11_showsActs_11 rfl ?_
    refine x_bipush (v := 11) dX11_showsActs_12 (by decide) ?_
    refine x_callV (k2 := 0) (n2 := 0) dX11_showsActs_14 LV_M_281 (r_ranBody (b := 11) (r := r) hx hr (by omega)) rfl rfl (fxo_127 hx) rfl (Nat.le_of_ble_eq_true rfl) (Nat.le_of_ble_eq_true rfl) (Nat.le_of_ble_eq_true rfl) (Nat.le_of_ble_eq_true rfl) ?_
    rintro _ _ ⟨rfl, rfl⟩
    refine x_aload_n dX11_showsActs_17 rfl ?_
    refine x_iload_n dX11_showsActs_18 rfl ?_
    refine x_iconst (v := 3) dX11_showsActs_19 (by decide) ?_
    refine x_imul dX11_showsActs_20 ?_
    refine x_callV (k2 := 0) (n2 := 0) dX11_showsActs_21 LV_M_294 (r_plainShows (I := (xTr 143 127 30 I r [11])) (r := r + 1) (x := x * 3) hx (xTr_r (by decide) hr) (by omega) ((xTr_fo (by decide) (by decide)).trans hkd) ((xTr_fo (by decide) (by decide)).trans hnum) ((xTr_fo (by decide) (by decide)).trans hv)) rfl rfl (fxo_127 hx) rfl (Nat.le_of_ble_eq_true rfl) (Nat.le_of_ble_eq_true rfl) (Nat.le_of_ble_eq_true rfl) (Nat.le_of_ble_eq_true rfl) ?_
    rintro _ _ ⟨rfl, rfl⟩
    refine x_ireturn dX11_showsActs_24 rfl nb_int ?_
    exact ⟨by unfold shV; rw [if_pos (bi_t c8)], by unfold shL; rw [if_pos (bi_t c8)]; rfl⟩

set_option maxHeartbeats 4000000 in
set_option maxRecDepth 100000 in
theorem r_plainPays {g : xG} {nx : Nat} {sh : Nat → Nat × Nat} {P : Nat → Nat → Option Nat} {I : Nat → Nat → Int32} (hx : xFx sh P) {kd num v x : Int32} {r : Nat} (hr : I 127 30 = nI r) (hr2 : r + 3 ≤ 20) (hkd : I 127 31 = kd) (hnum : I 127 32 = num) (hv : I 127 33 = v) : xMet g Y_M_plainPays 3 0 0 [.ref 127, .int x] (nx, sh, P, I) (fun z σ => z = some (.int (ppV kd num v x)) ∧ σ = (nx, sh, P, xTr 143 127 30 I r (ppL kd))) := by
  refine xMet.of [some (.ref 127), some (.int x)] (by decide +kernel) (Nat.le_of_ble_eq_true rfl) rfl ?_
  refine x_aload_n dX11_plainPays_0 rfl ?_
  refine x_iconst (v := 2) dX11_plainPays_1 (by decide) ?_
  refine x_callV (k2 := 0) (n2 := 0) dX11_plainPays_2 LV_M_281 (r_ranBody (b := 2) (r := r) hx hr (by omega)) rfl rfl (fxo_127 hx) rfl (Nat.le_of_ble_eq_true rfl) (Nat.le_of_ble_eq_true rfl) (Nat.le_of_ble_eq_true rfl) (Nat.le_of_ble_eq_true rfl) ?_
  rintro _ _ ⟨rfl, rfl⟩
  refine x_aload_n dX11_plainPays_5 rfl ?_
  refine x_iload_n dX11_plainPays_6 rfl ?_
  refine x_callV (k2 := 0) (n2 := 0) dX11_plainPays_7 LV_M_297 (r_showsActs (I := (xTr 143 127 30 I r [2])) (r := r + 1) (x := x) hx (xTr_r (by decide) hr) (by omega) ((xTr_fo (by decide) (by decide)).trans hkd) ((xTr_fo (by decide) (by decide)).trans hnum) ((xTr_fo (by decide) (by decide)).trans hv)) rfl rfl (fxo_127 hx) rfl (Nat.le_of_ble_eq_true rfl) (Nat.le_of_ble_eq_true rfl) (Nat.le_of_ble_eq_true rfl) (Nat.le_of_ble_eq_true rfl) ?_
  rintro _ _ ⟨rfl, rfl⟩
  refine x_aload_n dX11_plainPays_10 rfl ?_
  refine y_geti dX11_plainPays_11 F_M_300 (fxo_127 hx) rfl ((xTr_fo (by decide) (by decide)).trans ((xTr_fo (by decide) (by decide)).trans hv)) ?_
  refine x_isub dX11_plainPays_14 ?_
  refine x_ireturn dX11_plainPays_15 rfl nb_int ?_
  exact ⟨rfl, rfl⟩

set_option maxHeartbeats 4000000 in
set_option maxRecDepth 100000 in
theorem r_paysActs {g : xG} {nx : Nat} {sh : Nat → Nat × Nat} {P : Nat → Nat → Option Nat} {I : Nat → Nat → Int32} (hx : xFx sh P) {kd num v x : Int32} {r : Nat} (hr : I 127 30 = nI r) (hr2 : r + 4 ≤ 20) (hkd : I 127 31 = kd) (hnum : I 127 32 = num) (hv : I 127 33 = v) : xMet g Y_M_paysActs 4 0 0 [.ref 127, .int x] (nx, sh, P, I) (fun z σ => z = some (.int (paV kd num v x)) ∧ σ = (nx, sh, P, xTr 143 127 30 I r (paL kd))) := by
  refine xMet.of [some (.ref 127), some (.int x)] (by decide +kernel) (Nat.le_of_ble_eq_true rfl) rfl ?_
  refine x_aload_n dX11_paysActs_0 rfl ?_
  refine y_geti dX11_paysActs_1 F_M_287 (fxo_127 hx) rfl hkd ?_
  refine x_iconst (v := 2) dX11_paysActs_4 (by decide) ?_
  refine x_callS (k2 := 0) (n2 := 0) dX11_paysActs_5 LS_M_290 r_isUnder rfl rfl (Nat.le_of_ble_eq_true rfl) (Nat.le_of_ble_eq_true rfl) (Nat.le_of_ble_eq_true rfl) (Nat.le_of_ble_eq_true rfl) ?_
  rintro _ _ ⟨rfl, rfl⟩
  refine x_if_eq (tgt := 24) dX11_paysActs_8 rfl (fun c8 => ?_) (fun c8 => ?_)
  · refine x_aload_n dX11_paysActs_24 rfl ?_
    refine y_geti dX11_paysActs_25 F_M_287 (fxo_127 hx) rfl hkd ?_
    refine x_bipush (v := 6) dX11_paysActs_28 (by decide) ?_
    refine x_icmp_ne (tgt := 50) dX11_paysActs_30 rfl (fun c30 => ?_) (fun c30 => ?_)
    · refine x_aload_n dX11_paysActs_50 rfl ?_
      refine x_iload_n dX11_paysActs_51 rfl ?_
      refine x_callV (k2 := 0) (n2 := 0) dX11_paysActs_52 LV_M_303 (r_plainPays (r := r) (x := x) hx hr (by omega) hkd hnum hv) rfl rfl (fxo_127 hx) rfl (Nat.le_of_ble_eq_true rfl) (Nat.le_of_ble_eq_true rfl) (Nat.le_of_ble_eq_true rfl) (Nat.le_of_ble_eq_true rfl) ?_
      rintro _ _ ⟨rfl, rfl⟩
      refine x_ireturn dX11_paysActs_55 rfl nb_int ?_
      exact ⟨by unfold paV; rw [if_neg (by rw [bi_f c8]; decide), if_neg c30], by unfold paL; rw [if_neg (by rw [bi_f c8]; decide), if_neg c30]⟩
    · refine x_aload_n dX11_paysActs_33 rfl ?_
      refine x_bipush (v := 61) dX11_paysActs_34 (by decide) ?_
      refine x_callV (k2 := 0) (n2 := 0) dX11_paysActs_36 LV_M_281 (r_ranBody (b := 61) (r := r) hx hr (by omega)) rfl rfl (fxo_127 hx) rfl (Nat.le_of_ble_eq_true rfl) (Nat.le_of_ble_eq_true rfl) (Nat.le_of_ble_eq_true rfl) (Nat.le_of_ble_eq_true rfl) ?_
      rintro _ _ ⟨rfl, rfl⟩
      refine x_aload_n dX11_paysActs_39 rfl ?_
      refine x_iload_n dX11_paysActs_40 rfl ?_
      refine x_callV (k2 := 0) (n2 := 0) dX11_paysActs_41 LV_M_303 (r_plainPays (I := (xTr 143 127 30 I r [61])) (r := r + 1) (x := x) hx (xTr_r (by decide) hr) (by omega) ((xTr_fo (by decide) (by decide)).trans hkd) ((xTr_fo (by decide) (by decide)).trans hnum) ((xTr_fo (by decide) (by decide)).trans hv)) rfl rfl (fxo_127 hx) rfl (Nat.le_of_ble_eq_true rfl) (Nat.le_of_ble_eq_true rfl) (Nat.le_of_ble_eq_true rfl) (Nat.le_of_ble_eq_true rfl) ?_
      rintro _ _ ⟨rfl, rfl⟩
      refine x_aload_n dX11_paysActs_44 rfl ?_
      refine y_geti dX11_paysActs_45 F_M_300 (fxo_127 hx) rfl ((xTr_fo (by decide) (by decide)).trans ((xTr_fo (by decide) (by decide)).trans hv)) ?_
      refine x_iadd dX11_paysActs_48 ?_
      refine x_ireturn dX11_paysActs_49 rfl nb_int ?_
      exact ⟨by unfold paV; rw [if_neg (by rw [bi_f c8]; decide), if_pos c30], by unfold paL; rw [if_neg (by rw [bi_f c8]; decide), if_pos c30]; rfl⟩
  · refine x_aload_n dX11_paysActs_11 rfl ?_
    refine x_bipush (v := 21) dX11_paysActs_12 (by decide) ?_
    refine x_callV (k2 := 0) (n2 := 0) dX11_paysActs_14 LV_M_281 (r_ranBody (b := 21) (r := r) hx hr (by omega)) rfl rfl (fxo_127 hx) rfl (Nat.le_of_ble_eq_true rfl) (Nat.le_of_ble_eq_true rfl) (Nat.le_of_ble_eq_true rfl) (Nat.le_of_ble_eq_true rfl) ?_
    rintro _ _ ⟨rfl, rfl⟩
    refine x_aload_n dX11_paysActs_17 rfl ?_
    refine x_iload_n dX11_paysActs_18 rfl ?_
    refine x_callV (k2 := 0) (n2 := 0) dX11_paysActs_19 LV_M_303 (r_plainPays (I := (xTr 143 127 30 I r [21])) (r := r + 1) (x := x) hx (xTr_r (by decide) hr) (by omega) ((xTr_fo (by decide) (by decide)).trans hkd) ((xTr_fo (by decide) (by decide)).trans hnum) ((xTr_fo (by decide) (by decide)).trans hv)) rfl rfl (fxo_127 hx) rfl (Nat.le_of_ble_eq_true rfl) (Nat.le_of_ble_eq_true rfl) (Nat.le_of_ble_eq_true rfl) (Nat.le_of_ble_eq_true rfl) ?_
    rintro _ _ ⟨rfl, rfl⟩
    refine x_ineg dX11_paysActs_22 ?_
    refine x_ireturn dX11_paysActs_23 rfl nb_int ?_
    exact ⟨by unfold paV; rw [if_pos (bi_t c8)], by unfold paL; rw [if_pos (bi_t c8)]; rfl⟩

set_option maxHeartbeats 4000000 in
set_option maxRecDepth 100000 in
theorem r_plainTells {g : xG} {nx : Nat} {sh : Nat → Nat × Nat} {P : Nat → Nat → Option Nat} {I : Nat → Nat → Int32} (hx : xFx sh P) {kd num v x : Int32} {r : Nat} (hr : I 127 30 = nI r) (hr2 : r + 5 ≤ 20) (hkd : I 127 31 = kd) (hnum : I 127 32 = num) (hv : I 127 33 = v) : xMet g Y_M_plainTells 5 0 0 [.ref 127, .int x] (nx, sh, P, I) (fun z σ => z = some (.int (ptV kd num v x)) ∧ σ = (nx, sh, P, xTr 143 127 30 I r (ptL kd))) := by
  refine xMet.of [some (.ref 127), some (.int x)] (by decide +kernel) (Nat.le_of_ble_eq_true rfl) rfl ?_
  refine x_aload_n dX11_plainTells_0 rfl ?_
  refine x_iconst (v := 3) dX11_plainTells_1 (by decide) ?_
  refine x_callV (k2 := 0) (n2 := 0) dX11_plainTells_2 LV_M_281 (r_ranBody (b := 3) (r := r) hx hr (by omega)) rfl rfl (fxo_127 hx) rfl (Nat.le_of_ble_eq_true rfl) (Nat.le_of_ble_eq_true rfl) (Nat.le_of_ble_eq_true rfl) (Nat.le_of_ble_eq_true rfl) ?_
  rintro _ _ ⟨rfl, rfl⟩
  refine x_aload_n dX11_plainTells_5 rfl ?_
  refine x_iload_n dX11_plainTells_6 rfl ?_
  refine x_callV (k2 := 0) (n2 := 0) dX11_plainTells_7 LV_M_306 (r_paysActs (I := (xTr 143 127 30 I r [3])) (r := r + 1) (x := x) hx (xTr_r (by decide) hr) (by omega) ((xTr_fo (by decide) (by decide)).trans hkd) ((xTr_fo (by decide) (by decide)).trans hnum) ((xTr_fo (by decide) (by decide)).trans hv)) rfl rfl (fxo_127 hx) rfl (Nat.le_of_ble_eq_true rfl) (Nat.le_of_ble_eq_true rfl) (Nat.le_of_ble_eq_true rfl) (Nat.le_of_ble_eq_true rfl) ?_
  rintro _ _ ⟨rfl, rfl⟩
  refine x_iconst (v := 2) dX11_plainTells_10 (by decide) ?_
  refine x_imul dX11_plainTells_11 ?_
  refine x_ireturn dX11_plainTells_12 rfl nb_int ?_
  exact ⟨rfl, rfl⟩

set_option maxHeartbeats 4000000 in
set_option maxRecDepth 100000 in
theorem r_tellsActs {g : xG} {nx : Nat} {sh : Nat → Nat × Nat} {P : Nat → Nat → Option Nat} {I : Nat → Nat → Int32} (hx : xFx sh P) {kd num v x : Int32} {r : Nat} (hr : I 127 30 = nI r) (hr2 : r + 8 ≤ 20) (hkd : I 127 31 = kd) (hnum : I 127 32 = num) (hv : I 127 33 = v) : xMet g Y_M_tellsActs 6 0 0 [.ref 127, .int x] (nx, sh, P, I) (fun z σ => z = some (.int (teV kd num v x)) ∧ σ = (nx, sh, P, xTr 143 127 30 I r (teL kd))) := by
  refine xMet.of [some (.ref 127), some (.int x), none] (by decide +kernel) (Nat.le_of_ble_eq_true rfl) rfl ?_
  refine x_aload_n dX11_tellsActs_0 rfl ?_
  refine y_geti dX11_tellsActs_1 F_M_287 (fxo_127 hx) rfl hkd ?_
  refine x_iconst (v := 3) dX11_tellsActs_4 (by decide) ?_
  refine x_callS (k2 := 0) (n2 := 0) dX11_tellsActs_5 LS_M_290 r_isUnder rfl rfl (Nat.le_of_ble_eq_true rfl) (Nat.le_of_ble_eq_true rfl) (Nat.le_of_ble_eq_true rfl) (Nat.le_of_ble_eq_true rfl) ?_
  rintro _ _ ⟨rfl, rfl⟩
  refine x_if_eq (tgt := 26) dX11_tellsActs_8 rfl (fun c8 => ?_) (fun c8 => ?_)
  · refine x_aload_n dX11_tellsActs_26 rfl ?_
    refine y_geti dX11_tellsActs_27 F_M_287 (fxo_127 hx) rfl hkd ?_
    refine x_iconst (v := 4) dX11_tellsActs_30 (by decide) ?_
    refine x_icmp_ne (tgt := 56) dX11_tellsActs_31 rfl (fun c31 => ?_) (fun c31 => ?_)
    · refine x_aload_n dX11_tellsActs_56 rfl ?_
      refine x_iload_n dX11_tellsActs_57 rfl ?_
      refine x_callV (k2 := 0) (n2 := 0) dX11_tellsActs_58 LV_M_309 (r_plainTells (r := r) (x := x) hx hr (by omega) hkd hnum hv) rfl rfl (fxo_127 hx) rfl (Nat.le_of_ble_eq_true rfl) (Nat.le_of_ble_eq_true rfl) (Nat.le_of_ble_eq_true rfl) (Nat.le_of_ble_eq_true rfl) ?_
      rintro _ _ ⟨rfl, rfl⟩
      refine x_ireturn dX11_tellsActs_61 rfl nb_int ?_
      exact ⟨by unfold teV; rw [if_neg (by rw [bi_f c8]; decide), if_neg c31], by unfold teL; rw [if_neg (by rw [bi_f c8]; decide), if_neg c31]⟩
    · refine x_aload_n dX11_tellsActs_34 rfl ?_
      refine x_bipush (v := 41) dX11_tellsActs_35 (by decide) ?_
      refine x_callV (k2 := 0) (n2 := 0) dX11_tellsActs_37 LV_M_281 (r_ranBody (b := 41) (r := r) hx hr (by omega)) rfl rfl (fxo_127 hx) rfl (Nat.le_of_ble_eq_true rfl) (Nat.le_of_ble_eq_true rfl) (Nat.le_of_ble_eq_true rfl) (Nat.le_of_ble_eq_true rfl) ?_
      rintro _ _ ⟨rfl, rfl⟩
      refine x_aload_n dX11_tellsActs_40 rfl ?_
      refine x_iload_n dX11_tellsActs_41 rfl ?_
      refine x_iconst (v := 1) dX11_tellsActs_42 (by decide) ?_
      refine x_isub dX11_tellsActs_43 ?_
      refine x_callV (k2 := 0) (n2 := 0) dX11_tellsActs_44 LV_M_309 (r_plainTells (I := (xTr 143 127 30 I r [41])) (r := r + 1) (x := x - 1) hx (xTr_r (by decide) hr) (by omega) ((xTr_fo (by decide) (by decide)).trans hkd) ((xTr_fo (by decide) (by decide)).trans hnum) ((xTr_fo (by decide) (by decide)).trans hv)) rfl rfl (fxo_127 hx) rfl (Nat.le_of_ble_eq_true rfl) (Nat.le_of_ble_eq_true rfl) (Nat.le_of_ble_eq_true rfl) (Nat.le_of_ble_eq_true rfl) ?_
      rintro _ _ ⟨rfl, rfl⟩
      refine x_istore_n dX11_tellsActs_47 (Nat.le_of_ble_eq_true rfl) ?_
      try simp only [xst, xst2, xclr, xset, xwide]
      refine x_iload_n dX11_tellsActs_48 rfl ?_
      refine x_aload_n dX11_tellsActs_49 rfl ?_
      refine x_iconst (v := 2) dX11_tellsActs_50 (by decide) ?_
      refine x_callV (k2 := 0) (n2 := 0) dX11_tellsActs_51 LV_M_297 (r_showsActs (I := xTr 143 127 30 (xTr 143 127 30 I r [41]) (r + 1) (ptL kd)) (r := r + 1 + (ptL kd).length) (x := 2) (kd := kd) (num := num) (v := v) hx (xTr_r (by decide) (xTr_r (by decide) hr)) (by have := ptL_l (kd := kd); omega) ((xTr_fo (by decide) (by decide)).trans ((xTr_fo (by decide) (by decide)).trans hkd)) ((xTr_fo (by decide) (by decide)).trans ((xTr_fo (by decide) (by decide)).trans hnum)) ((xTr_fo (by decide) (by decide)).trans ((xTr_fo (by decide) (by decide)).trans hv))) rfl rfl (fxo_127 hx) rfl (Nat.le_of_ble_eq_true rfl) (Nat.le_of_ble_eq_true rfl) (Nat.le_of_ble_eq_true rfl) (Nat.le_of_ble_eq_true rfl) ?_
      rintro _ _ ⟨rfl, rfl⟩
      refine x_iadd dX11_tellsActs_54 ?_
      refine x_ireturn dX11_tellsActs_55 rfl nb_int ?_
      exact ⟨by unfold teV; rw [if_neg (by rw [bi_f c8]; decide), if_pos c31], by unfold teL; rw [if_neg (by rw [bi_f c8]; decide), if_pos c31]; rw [← xTr_app]; rfl⟩
  · refine x_aload_n dX11_tellsActs_11 rfl ?_
    refine x_bipush (v := 31) dX11_tellsActs_12 (by decide) ?_
    refine x_callV (k2 := 0) (n2 := 0) dX11_tellsActs_14 LV_M_281 (r_ranBody (b := 31) (r := r) hx hr (by omega)) rfl rfl (fxo_127 hx) rfl (Nat.le_of_ble_eq_true rfl) (Nat.le_of_ble_eq_true rfl) (Nat.le_of_ble_eq_true rfl) (Nat.le_of_ble_eq_true rfl) ?_
    rintro _ _ ⟨rfl, rfl⟩
    refine x_aload_n dX11_tellsActs_17 rfl ?_
    refine x_iload_n dX11_tellsActs_18 rfl ?_
    refine x_callV (k2 := 0) (n2 := 0) dX11_tellsActs_19 LV_M_309 (r_plainTells (I := (xTr 143 127 30 I r [31])) (r := r + 1) (x := x) hx (xTr_r (by decide) hr) (by omega) ((xTr_fo (by decide) (by decide)).trans hkd) ((xTr_fo (by decide) (by decide)).trans hnum) ((xTr_fo (by decide) (by decide)).trans hv)) rfl rfl (fxo_127 hx) rfl (Nat.le_of_ble_eq_true rfl) (Nat.le_of_ble_eq_true rfl) (Nat.le_of_ble_eq_true rfl) (Nat.le_of_ble_eq_true rfl) ?_
    rintro _ _ ⟨rfl, rfl⟩
    refine x_bipush (v := 7) dX11_tellsActs_22 (by decide) ?_
    refine x_ixor dX11_tellsActs_24 ?_
    refine x_ireturn dX11_tellsActs_25 rfl nb_int ?_
    exact ⟨by unfold teV; rw [if_pos (bi_t c8)], by unfold teL; rw [if_pos (bi_t c8)]; rfl⟩

/-- an act of coin c: what it answers, the bodies -/
def a_act (s : Nat → Int32) (c a x : Int32) : Int32 := if (0 ≤ c ∧ c < s 0) ∧ 0 ≤ a ∧ a ≤ 2 then (if a = 0 then shV (s (10 + c.toNatClampNeg)) c x else if a = 1 then paV (s (10 + c.toNatClampNeg)) c (s (14 + c.toNatClampNeg)) x else teV (s (10 + c.toNatClampNeg)) c (s (14 + c.toNatClampNeg)) x) else 0
def l_act (s : Nat → Int32) (c a : Int32) : List Int32 := if (0 ≤ c ∧ c < s 0) ∧ 0 ≤ a ∧ a ≤ 2 then (if a = 0 then shL (s (10 + c.toNatClampNeg)) else if a = 1 then paL (s (10 + c.toNatClampNeg)) else teL (s (10 + c.toNatClampNeg))) else []

set_option maxHeartbeats 4000000 in
set_option maxRecDepth 100000 in
theorem r_act {g : xG} {nx : Nat} {sh : Nat → Nat × Nat} {P : Nat → Nat → Option Nat} {I : Nat → Nat → Int32} (hx : xFx sh P) {c a x : Int32} (hR : RI (I 128)) : xMet g Y_M_act 7 0 0 [.ref 127, .int c, .int a, .int x] (nx, sh, P, I) (fun r σ => ∃ I1 : Nat → Nat → Int32, r = some (.int (a_act (I 128) c a x)) ∧ σ = (nx, sh, P, I1) ∧ (I1 127 30 = nI (l_act (I 128) c a).length ∧ ∀ j, j < (l_act (I 128) c a).length → I1 143 j = (l_act (I 128) c a).getD j 0) ∧ xFrm [127, 143] I I1 ∧ I1 127 3 = I 127 3) := by
  refine xMet.of [some (.ref 127), some (.int c), some (.int a), some (.int x)] (by decide +kernel) (Nat.le_of_ble_eq_true rfl) rfl ?_
  obtain ⟨⟨n0, b0, e0⟩, ⟨n1, b1, e1⟩, ⟨n2, b2, e2⟩, ⟨n3, b3, e3⟩, ⟨n4, b4, e4⟩, ⟨n5, b5, e5⟩, ⟨n6, b6, e6⟩, ⟨n7, b7, e7⟩, ⟨n9, b9, e9⟩⟩ := hR.k
  refine x_aload_n dX11_act_0 rfl ?_
  refine x_iconst (v := 0) dX11_act_1 (by decide) ?_
  refine x_puti dX11_act_2 F_M_278 T_11_30 (fxo_127 hx) rfl rfl rfl ?_
  refine x_aload_n dX11_act_5 rfl ?_
  refine x_iload_n dX11_act_6 rfl ?_
  refine x_callV (k2 := 0) (n2 := 0) dX11_act_7 LV_M_161 (r_isCoin (I := xup I 127 30 0) hx hR.nn0) rfl rfl (fxo_127 hx) rfl (Nat.le_of_ble_eq_true rfl) (Nat.le_of_ble_eq_true rfl) (Nat.le_of_ble_eq_true rfl) (Nat.le_of_ble_eq_true rfl) ?_
  rintro _ _ ⟨rfl, rfl⟩
  refine x_if_eq (tgt := 22) dX11_act_10 rfl (fun c10 => ?_) (fun c10 => ?_)
  · refine x_iconst (v := 0) dX11_act_22 (by decide) ?_
    refine x_ireturn dX11_act_23 rfl nb_int ?_
    have hn : ¬ ((0 ≤ c ∧ c < I 128 0) ∧ 0 ≤ a ∧ a ≤ 2) := fun h => by first | exact absurd h.1 (b_f c10) | exact absurd h.2 (b_f c19)
    exact ⟨xup I 127 30 0, by unfold a_act; rw [if_neg hn], rfl, ⟨by unfold l_act; rw [if_neg hn, xup_at, if_pos ⟨rfl, rfl⟩]; rfl, fun j hj => by unfold l_act at hj; rw [if_neg hn] at hj; exact absurd hj (Nat.not_lt_zero j)⟩, fun b hb => xup_n (fun z => hb (by rw [z]; decide)), by rw [xup_at, if_neg (by decide)]⟩
  · refine x_iload_n dX11_act_13 rfl ?_
    refine x_iconst (v := 0) dX11_act_14 (by decide) ?_
    refine x_iconst (v := 2) dX11_act_15 (by decide) ?_
    refine x_callS (k2 := 0) (n2 := 0) dX11_act_16 LS_M_65 r_in rfl rfl (Nat.le_of_ble_eq_true rfl) (Nat.le_of_ble_eq_true rfl) (Nat.le_of_ble_eq_true rfl) (Nat.le_of_ble_eq_true rfl) ?_
    rintro _ _ ⟨rfl, rfl⟩
    refine x_if_ne (tgt := 24) dX11_act_19 rfl (fun c19 => ?_) (fun c19 => ?_)
    · obtain ⟨q, hq, rfl⟩ := i_2 (n := n0) (by omega) (by rw [← e0]; exact b_t c10)
      refine x_aload_n dX11_act_24 rfl ?_
      refine x_aload_n dX11_act_25 rfl ?_
      refine y_getr dX11_act_26 F_M_9 (fxo_127 hx) rfl (fxp_127_1 hx) ?_
      refine x_bipush (v := 10) dX11_act_29 (by decide) ?_
      refine x_iload_n dX11_act_31 rfl ?_
      refine x_iadd dX11_act_32 ?_
      refine y_iaload dX11_act_33 (fxk_128 hx) (vi (j := (10 + q)) (nadd (a := 10) (b := q) rfl rfl) (by omega) (by decide)) (rI (j := (10 + q)) (ci (nadd (a := 10) (b := q) rfl rfl) (by omega)) rfl) ?_
      refine x_puti dX11_act_34 F_M_287 T_11_31 (fxo_127 hx) rfl rfl rfl ?_
      refine x_aload_n dX11_act_37 rfl ?_
      refine x_iload_n dX11_act_38 rfl ?_
      refine x_puti dX11_act_39 F_M_284 T_11_32 (fxo_127 hx) rfl rfl rfl ?_
      refine x_aload_n dX11_act_42 rfl ?_
      refine x_aload_n dX11_act_43 rfl ?_
      refine y_getr dX11_act_44 F_M_9 (fxo_127 hx) rfl (fxp_127_1 hx) ?_
      refine x_bipush (v := 14) dX11_act_47 (by decide) ?_
      refine x_iload_n dX11_act_49 rfl ?_
      refine x_iadd dX11_act_50 ?_
      refine y_iaload dX11_act_51 (fxk_128 hx) (vi (j := (14 + q)) (nadd (a := 14) (b := q) rfl rfl) (by omega) (by decide)) (rI (j := (14 + q)) (ci (nadd (a := 14) (b := q) rfl rfl) (by omega)) rfl) ?_
      refine x_puti dX11_act_52 F_M_300 T_11_33 (fxo_127 hx) rfl rfl rfl ?_
      obtain ⟨J, hJ⟩ : ∃ J, J = xup (xup (xup (xup I 127 30 0) 127 31 (I 128 (10 + q))) 127 32 (nI q)) 127 33 (I 128 (14 + q)) := ⟨_, rfl⟩
      refine y_st (I' := J) hJ.symm ?_
      have hJr : J 127 30 = nI 0 := by rw [hJ, xup_at, if_neg (by decide), xup_at, if_neg (by decide), xup_at, if_neg (by decide), xup_at, if_pos (by decide)]; rfl
      have hJk : J 127 31 = I 128 (10 + q) := by rw [hJ, xup_at, if_neg (by decide), xup_at, if_neg (by decide), xup_at, if_pos (by decide)]
      have hJn : J 127 32 = nI q := by rw [hJ, xup_at, if_neg (by decide), xup_at, if_pos (by decide)]
      have hJv : J 127 33 = I 128 (14 + q) := by rw [hJ, xup_at, if_pos (by decide)]
      have hJo : ∀ b, b ≠ 127 → J b = I b := fun b hb => by rw [hJ, xup_n hb, xup_n hb, xup_n hb, xup_n hb]
      have hJ3 : J 127 3 = I 127 3 := by rw [hJ, xup_at, if_neg (by decide), xup_at, if_neg (by decide), xup_at, if_neg (by decide), xup_at, if_neg (by decide)]
      refine x_iload_n dX11_act_55 rfl ?_
      refine x_if_ne (tgt := 67) dX11_act_56 rfl (fun c56 => ?_) (fun c56 => ?_)
      · refine x_iload_n dX11_act_67 rfl ?_
        refine x_iconst (v := 1) dX11_act_68 (by decide) ?_
        refine x_icmp_ne (tgt := 80) dX11_act_69 rfl (fun c69 => ?_) (fun c69 => ?_)
        · refine x_aload_n dX11_act_80 rfl ?_
          refine x_iload_n dX11_act_81 rfl ?_
          refine x_callV (k2 := 0) (n2 := 0) dX11_act_82 LV_M_312 (r_tellsActs (I := J) (r := 0) (x := x) hx hJr (by decide) hJk hJn hJv) rfl rfl (fxo_127 hx) rfl (Nat.le_of_ble_eq_true rfl) (Nat.le_of_ble_eq_true rfl) (Nat.le_of_ble_eq_true rfl) (Nat.le_of_ble_eq_true rfl) ?_
          rintro _ _ ⟨rfl, rfl⟩
          refine x_ireturn dX11_act_85 rfl nb_int ?_
          first | exact ⟨xTr 143 127 30 J 0 (shL (I 128 (10 + q))), by unfold a_act; rw [if_pos ⟨b_t c10, b_t c19⟩, nI_clamp (by omega), if_pos c56], rfl, ⟨(xTr_r (by decide) hJr).trans (by unfold l_act; rw [if_pos ⟨b_t c10, b_t c19⟩, nI_clamp (by omega), if_pos c56, Nat.zero_add]), fun j hj => by unfold l_act at hj ⊢; rw [if_pos ⟨b_t c10, b_t c19⟩, nI_clamp (by omega), if_pos c56] at hj ⊢; have h9 := xTr_in (tr := 143) (ob := 127) (fk := 30) (I := J) (r := 0) (by decide) hj; rw [Nat.zero_add] at h9; exact h9⟩, fun b hb => (xTr_no (fun z => hb (by rw [z]; decide)) (fun z => hb (by rw [z]; decide))).trans (hJo b (fun z => hb (by rw [z]; decide))), (xTr_fo (by decide) (by decide)).trans hJ3⟩ | exact ⟨xTr 143 127 30 J 0 (paL (I 128 (10 + q))), by unfold a_act; rw [if_pos ⟨b_t c10, b_t c19⟩, nI_clamp (by omega), if_neg c56, if_pos c69], rfl, ⟨(xTr_r (by decide) hJr).trans (by unfold l_act; rw [if_pos ⟨b_t c10, b_t c19⟩, nI_clamp (by omega), if_neg c56, if_pos c69, Nat.zero_add]), fun j hj => by unfold l_act at hj ⊢; rw [if_pos ⟨b_t c10, b_t c19⟩, nI_clamp (by omega), if_neg c56, if_pos c69] at hj ⊢; have h9 := xTr_in (tr := 143) (ob := 127) (fk := 30) (I := J) (r := 0) (by decide) hj; rw [Nat.zero_add] at h9; exact h9⟩, fun b hb => (xTr_no (fun z => hb (by rw [z]; decide)) (fun z => hb (by rw [z]; decide))).trans (hJo b (fun z => hb (by rw [z]; decide))), (xTr_fo (by decide) (by decide)).trans hJ3⟩ | exact ⟨xTr 143 127 30 J 0 (teL (I 128 (10 + q))), by unfold a_act; rw [if_pos ⟨b_t c10, b_t c19⟩, nI_clamp (by omega), if_neg c56, if_neg c69], rfl, ⟨(xTr_r (by decide) hJr).trans (by unfold l_act; rw [if_pos ⟨b_t c10, b_t c19⟩, nI_clamp (by omega), if_neg c56, if_neg c69, Nat.zero_add]), fun j hj => by unfold l_act at hj ⊢; rw [if_pos ⟨b_t c10, b_t c19⟩, nI_clamp (by omega), if_neg c56, if_neg c69] at hj ⊢; have h9 := xTr_in (tr := 143) (ob := 127) (fk := 30) (I := J) (r := 0) (by decide) hj; rw [Nat.zero_add] at h9; exact h9⟩, fun b hb => (xTr_no (fun z => hb (by rw [z]; decide)) (fun z => hb (by rw [z]; decide))).trans (hJo b (fun z => hb (by rw [z]; decide))), (xTr_fo (by decide) (by decide)).trans hJ3⟩
        · refine x_aload_n dX11_act_72 rfl ?_
          refine x_iload_n dX11_act_73 rfl ?_
          refine x_callV (k2 := 0) (n2 := 0) dX11_act_74 LV_M_306 (r_paysActs (I := J) (r := 0) (x := x) hx hJr (by decide) hJk hJn hJv) rfl rfl (fxo_127 hx) rfl (Nat.le_of_ble_eq_true rfl) (Nat.le_of_ble_eq_true rfl) (Nat.le_of_ble_eq_true rfl) (Nat.le_of_ble_eq_true rfl) ?_
          rintro _ _ ⟨rfl, rfl⟩
          refine x_goto (tgt := 85) dX11_act_77 rfl ?_
          refine x_ireturn dX11_act_85 rfl nb_int ?_
          first | exact ⟨xTr 143 127 30 J 0 (shL (I 128 (10 + q))), by unfold a_act; rw [if_pos ⟨b_t c10, b_t c19⟩, nI_clamp (by omega), if_pos c56], rfl, ⟨(xTr_r (by decide) hJr).trans (by unfold l_act; rw [if_pos ⟨b_t c10, b_t c19⟩, nI_clamp (by omega), if_pos c56, Nat.zero_add]), fun j hj => by unfold l_act at hj ⊢; rw [if_pos ⟨b_t c10, b_t c19⟩, nI_clamp (by omega), if_pos c56] at hj ⊢; have h9 := xTr_in (tr := 143) (ob := 127) (fk := 30) (I := J) (r := 0) (by decide) hj; rw [Nat.zero_add] at h9; exact h9⟩, fun b hb => (xTr_no (fun z => hb (by rw [z]; decide)) (fun z => hb (by rw [z]; decide))).trans (hJo b (fun z => hb (by rw [z]; decide))), (xTr_fo (by decide) (by decide)).trans hJ3⟩ | exact ⟨xTr 143 127 30 J 0 (paL (I 128 (10 + q))), by unfold a_act; rw [if_pos ⟨b_t c10, b_t c19⟩, nI_clamp (by omega), if_neg c56, if_pos c69], rfl, ⟨(xTr_r (by decide) hJr).trans (by unfold l_act; rw [if_pos ⟨b_t c10, b_t c19⟩, nI_clamp (by omega), if_neg c56, if_pos c69, Nat.zero_add]), fun j hj => by unfold l_act at hj ⊢; rw [if_pos ⟨b_t c10, b_t c19⟩, nI_clamp (by omega), if_neg c56, if_pos c69] at hj ⊢; have h9 := xTr_in (tr := 143) (ob := 127) (fk := 30) (I := J) (r := 0) (by decide) hj; rw [Nat.zero_add] at h9; exact h9⟩, fun b hb => (xTr_no (fun z => hb (by rw [z]; decide)) (fun z => hb (by rw [z]; decide))).trans (hJo b (fun z => hb (by rw [z]; decide))), (xTr_fo (by decide) (by decide)).trans hJ3⟩ | exact ⟨xTr 143 127 30 J 0 (teL (I 128 (10 + q))), by unfold a_act; rw [if_pos ⟨b_t c10, b_t c19⟩, nI_clamp (by omega), if_neg c56, if_neg c69], rfl, ⟨(xTr_r (by decide) hJr).trans (by unfold l_act; rw [if_pos ⟨b_t c10, b_t c19⟩, nI_clamp (by omega), if_neg c56, if_neg c69, Nat.zero_add]), fun j hj => by unfold l_act at hj ⊢; rw [if_pos ⟨b_t c10, b_t c19⟩, nI_clamp (by omega), if_neg c56, if_neg c69] at hj ⊢; have h9 := xTr_in (tr := 143) (ob := 127) (fk := 30) (I := J) (r := 0) (by decide) hj; rw [Nat.zero_add] at h9; exact h9⟩, fun b hb => (xTr_no (fun z => hb (by rw [z]; decide)) (fun z => hb (by rw [z]; decide))).trans (hJo b (fun z => hb (by rw [z]; decide))), (xTr_fo (by decide) (by decide)).trans hJ3⟩
      · refine x_aload_n dX11_act_59 rfl ?_
        refine x_iload_n dX11_act_60 rfl ?_
        refine x_callV (k2 := 0) (n2 := 0) dX11_act_61 LV_M_297 (r_showsActs (I := J) (r := 0) (x := x) hx hJr (by decide) hJk hJn hJv) rfl rfl (fxo_127 hx) rfl (Nat.le_of_ble_eq_true rfl) (Nat.le_of_ble_eq_true rfl) (Nat.le_of_ble_eq_true rfl) (Nat.le_of_ble_eq_true rfl) ?_
        rintro _ _ ⟨rfl, rfl⟩
        refine x_goto (tgt := 85) dX11_act_64 rfl ?_
        refine x_ireturn dX11_act_85 rfl nb_int ?_
        first | exact ⟨xTr 143 127 30 J 0 (shL (I 128 (10 + q))), by unfold a_act; rw [if_pos ⟨b_t c10, b_t c19⟩, nI_clamp (by omega), if_pos c56], rfl, ⟨(xTr_r (by decide) hJr).trans (by unfold l_act; rw [if_pos ⟨b_t c10, b_t c19⟩, nI_clamp (by omega), if_pos c56, Nat.zero_add]), fun j hj => by unfold l_act at hj ⊢; rw [if_pos ⟨b_t c10, b_t c19⟩, nI_clamp (by omega), if_pos c56] at hj ⊢; have h9 := xTr_in (tr := 143) (ob := 127) (fk := 30) (I := J) (r := 0) (by decide) hj; rw [Nat.zero_add] at h9; exact h9⟩, fun b hb => (xTr_no (fun z => hb (by rw [z]; decide)) (fun z => hb (by rw [z]; decide))).trans (hJo b (fun z => hb (by rw [z]; decide))), (xTr_fo (by decide) (by decide)).trans hJ3⟩ | exact ⟨xTr 143 127 30 J 0 (paL (I 128 (10 + q))), by unfold a_act; rw [if_pos ⟨b_t c10, b_t c19⟩, nI_clamp (by omega), if_neg c56, if_pos c69], rfl, ⟨(xTr_r (by decide) hJr).trans (by unfold l_act; rw [if_pos ⟨b_t c10, b_t c19⟩, nI_clamp (by omega), if_neg c56, if_pos c69, Nat.zero_add]), fun j hj => by unfold l_act at hj ⊢; rw [if_pos ⟨b_t c10, b_t c19⟩, nI_clamp (by omega), if_neg c56, if_pos c69] at hj ⊢; have h9 := xTr_in (tr := 143) (ob := 127) (fk := 30) (I := J) (r := 0) (by decide) hj; rw [Nat.zero_add] at h9; exact h9⟩, fun b hb => (xTr_no (fun z => hb (by rw [z]; decide)) (fun z => hb (by rw [z]; decide))).trans (hJo b (fun z => hb (by rw [z]; decide))), (xTr_fo (by decide) (by decide)).trans hJ3⟩ | exact ⟨xTr 143 127 30 J 0 (teL (I 128 (10 + q))), by unfold a_act; rw [if_pos ⟨b_t c10, b_t c19⟩, nI_clamp (by omega), if_neg c56, if_neg c69], rfl, ⟨(xTr_r (by decide) hJr).trans (by unfold l_act; rw [if_pos ⟨b_t c10, b_t c19⟩, nI_clamp (by omega), if_neg c56, if_neg c69, Nat.zero_add]), fun j hj => by unfold l_act at hj ⊢; rw [if_pos ⟨b_t c10, b_t c19⟩, nI_clamp (by omega), if_neg c56, if_neg c69] at hj ⊢; have h9 := xTr_in (tr := 143) (ob := 127) (fk := 30) (I := J) (r := 0) (by decide) hj; rw [Nat.zero_add] at h9; exact h9⟩, fun b hb => (xTr_no (fun z => hb (by rw [z]; decide)) (fun z => hb (by rw [z]; decide))).trans (hJo b (fun z => hb (by rw [z]; decide))), (xTr_fo (by decide) (by decide)).trans hJ3⟩
    · refine x_iconst (v := 0) dX11_act_22 (by decide) ?_
      refine x_ireturn dX11_act_23 rfl nb_int ?_
      have hn : ¬ ((0 ≤ c ∧ c < I 128 0) ∧ 0 ≤ a ∧ a ≤ 2) := fun h => by first | exact absurd h.1 (b_f c10) | exact absurd h.2 (b_f c19)
      exact ⟨xup I 127 30 0, by unfold a_act; rw [if_neg hn], rfl, ⟨by unfold l_act; rw [if_neg hn, xup_at, if_pos ⟨rfl, rfl⟩]; rfl, fun j hj => by unfold l_act at hj; rw [if_neg hn] at hj; exact absurd hj (Nat.not_lt_zero j)⟩, fun b hb => xup_n (fun z => hb (by rw [z]; decide)), by rw [xup_at, if_neg (by decide)]⟩
