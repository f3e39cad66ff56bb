/-! the class: act, trace, as -/
set_option maxHeartbeats 4000000 in
set_option maxRecDepth 100000 in
theorem m_Acts_forget {g : xG} {nx : Nat} {sh : Nat → Nat × Nat} {P : Nat → Nat → Option Nat} {I : Nat → Nat → Int32} (hx : xFx sh P) : xMet g Y_Acts_forget 0 0 0 [.ref 125] (nx, sh, P, I) (fun r σ => r = none ∧ σ = (nx, sh, P, xup I 125 1 0)) := by
  refine xMet.of [some (.ref 125)] (by decide +kernel) (Nat.le_of_ble_eq_true rfl) rfl ?_
  refine x_aload_n dX0_forget_0 rfl ?_
  refine x_iconst (v := 0) dX0_forget_1 (by decide) ?_
  refine x_puti dX0_forget_2 F_Acts_15 T_0_1 (fxo_125 hx) rfl rfl rfl ?_
  refine x_return dX0_forget_5 rfl ?_
  exact ⟨rfl, rfl⟩

set_option maxHeartbeats 4000000 in
set_option maxRecDepth 100000 in
theorem m_Acts_take {g : xG} {nx : Nat} {sh : Nat → Nat × Nat} {P : Nat → Nat → Option Nat} {I : Nat → Nat → Int32} (hx : xFx sh P) {a b c : Int32} : xMet g Y_Acts_take 0 0 0 [.ref 125, .int a, .int b, .int c] (nx, sh, P, I) (fun r σ => r = none ∧ σ = (nx, sh, P, xup (xup (xup I 125 2 a) 125 3 b) 125 4 c)) := by
  refine xMet.of [some (.ref 125), some (.int a), some (.int b), some (.int c)] (by decide +kernel) (Nat.le_of_ble_eq_true rfl) rfl ?_
  refine x_aload_n dX0_take_0 rfl ?_
  refine x_iload_n dX0_take_1 rfl ?_
  refine x_puti dX0_take_2 F_Acts_19 T_0_2 (fxo_125 hx) rfl rfl rfl ?_
  refine x_aload_n dX0_take_5 rfl ?_
  refine x_iload_n dX0_take_6 rfl ?_
  refine x_puti dX0_take_7 F_Acts_22 T_0_3 (fxo_125 hx) rfl rfl rfl ?_
  refine x_aload_n dX0_take_10 rfl ?_
  refine x_iload_n dX0_take_11 rfl ?_
  refine x_puti dX0_take_12 F_Acts_25 T_0_4 (fxo_125 hx) rfl rfl rfl ?_
  refine x_return dX0_take_15 rfl ?_
  exact ⟨rfl, rfl⟩

set_option maxHeartbeats 4000000 in
set_option maxRecDepth 100000 in
theorem m_perf0 {g : xG} {nx : Nat} {sh : Nat → Nat × Nat} {P : Nat → Nat → Option Nat} {I : Nat → Nat → Int32} (hx : xFx sh P) {kd num v x : Int32} {r : Nat} (hr : I 125 1 = nI r) (hkd : I 125 3 = kd) (hnum : I 125 2 = num) (hv : I 125 4 = v) (hk6 : ∃ f, f < 7 ∧ kd = nI f) (hr2 : r + 8 ≤ 20) : xMet g Y_Acts_perform 13 0 0 [.ref 125, .int 0, .int x] (nx, sh, P, I) (fun z σ => z = some (.int (shV kd num x)) ∧ σ = (nx, sh, P, xTr 126 125 1 I r (shL kd))) := by
  refine xMet.of [some (.ref 125), some (.int 0), some (.int x)] (by decide +kernel) (Nat.le_of_ble_eq_true rfl) rfl ?_
  refine x_aload_n dX0_perform_0 rfl ?_
  refine x_aload_n dX0_perform_1 rfl ?_
  refine y_geti dX0_perform_2 F_Acts_22 (fxo_125 hx) rfl hkd ?_
  refine x_iload_n dX0_perform_5 rfl ?_
  refine x_iload_n dX0_perform_6 rfl ?_
  refine x_iconst (v := 0) dX0_perform_7 (by decide) ?_
  refine x_callV (k2 := 0) (n2 := 0) dX0_perform_8 LV_Acts_28 (m_runsh (I := I) (r := r) (dp := 0) hx (hr := hr) (hkd := hkd) (hnum := hnum) (hv := hv) (hr2 := by omega) (hdp := by omega) (hk6 := hk6)) rfl rfl (fxo_125 hx) rfl (Nat.le_of_ble_eq_true rfl) (Nat.le_of_ble_eq_true rfl) (Nat.le_of_ble_eq_true rfl) (Nat.le_of_ble_eq_true rfl) ?_
  rintro _ _ ⟨rfl, rfl⟩
  refine x_ireturn dX0_perform_11 rfl nb_int ?_
  exact ⟨rfl, rfl⟩

set_option maxHeartbeats 4000000 in
set_option maxRecDepth 100000 in
theorem m_perf1 {g : xG} {nx : Nat} {sh : Nat → Nat × Nat} {P : Nat → Nat → Option Nat} {I : Nat → Nat → Int32} (hx : xFx sh P) {kd num v x : Int32} {r : Nat} (hr : I 125 1 = nI r) (hkd : I 125 3 = kd) (hnum : I 125 2 = num) (hv : I 125 4 = v) (hk6 : ∃ f, f < 7 ∧ kd = nI f) (hr2 : r + 8 ≤ 20) : xMet g Y_Acts_perform 13 0 0 [.ref 125, .int 1, .int x] (nx, sh, P, I) (fun z σ => z = some (.int (paV kd num v x)) ∧ σ = (nx, sh, P, xTr 126 125 1 I r (paL kd))) := by
  refine xMet.of [some (.ref 125), some (.int 1), some (.int x)] (by decide +kernel) (Nat.le_of_ble_eq_true rfl) rfl ?_
  refine x_aload_n dX0_perform_0 rfl ?_
  refine x_aload_n dX0_perform_1 rfl ?_
  refine y_geti dX0_perform_2 F_Acts_22 (fxo_125 hx) rfl hkd ?_
  refine x_iload_n dX0_perform_5 rfl ?_
  refine x_iload_n dX0_perform_6 rfl ?_
  refine x_iconst (v := 0) dX0_perform_7 (by decide) ?_
  refine x_callV (k2 := 0) (n2 := 0) dX0_perform_8 LV_Acts_28 (m_runpa (I := I) (r := r) (dp := 0) hx (hr := hr) (hkd := hkd) (hnum := hnum) (hv := hv) (hr2 := by omega) (hdp := by omega) (hk6 := hk6)) rfl rfl (fxo_125 hx) rfl (Nat.le_of_ble_eq_true rfl) (Nat.le_of_ble_eq_true rfl) (Nat.le_of_ble_eq_true rfl) (Nat.le_of_ble_eq_true rfl) ?_
  rintro _ _ ⟨rfl, rfl⟩
  refine x_ireturn dX0_perform_11 rfl nb_int ?_
  exact ⟨rfl, rfl⟩

set_option maxHeartbeats 4000000 in
set_option maxRecDepth 100000 in
theorem m_perf2 {g : xG} {nx : Nat} {sh : Nat → Nat × Nat} {P : Nat → Nat → Option Nat} {I : Nat → Nat → Int32} (hx : xFx sh P) {kd num v x : Int32} {r : Nat} (hr : I 125 1 = nI r) (hkd : I 125 3 = kd) (hnum : I 125 2 = num) (hv : I 125 4 = v) (hk6 : ∃ f, f < 7 ∧ kd = nI f) (hr2 : r + 8 ≤ 20) : xMet g Y_Acts_perform 13 0 0 [.ref 125, .int 2, .int x] (nx, sh, P, I) (fun z σ => z = some (.int (teV kd num v x)) ∧ σ = (nx, sh, P, xTr 126 125 1 I r (teL kd))) := by
  refine xMet.of [some (.ref 125), some (.int 2), some (.int x)] (by decide +kernel) (Nat.le_of_ble_eq_true rfl) rfl ?_
  refine x_aload_n dX0_perform_0 rfl ?_
  refine x_aload_n dX0_perform_1 rfl ?_
  refine y_geti dX0_perform_2 F_Acts_22 (fxo_125 hx) rfl hkd ?_
  refine x_iload_n dX0_perform_5 rfl ?_
  refine x_iload_n dX0_perform_6 rfl ?_
  refine x_iconst (v := 0) dX0_perform_7 (by decide) ?_
  refine x_callV (k2 := 0) (n2 := 0) dX0_perform_8 LV_Acts_28 (m_runte (I := I) (r := r) (dp := 0) hx (hr := hr) (hkd := hkd) (hnum := hnum) (hv := hv) (hr2 := by omega) (hdp := by omega) (hk6 := hk6)) rfl rfl (fxo_125 hx) rfl (Nat.le_of_ble_eq_true rfl) (Nat.le_of_ble_eq_true rfl) (Nat.le_of_ble_eq_true rfl) (Nat.le_of_ble_eq_true rfl) ?_
  rintro _ _ ⟨rfl, rfl⟩
  refine x_ireturn dX0_perform_11 rfl nb_int ?_
  exact ⟨rfl, rfl⟩

def pfV (a kd num v x : Int32) : Int32 := if a = 0 then shV kd num x else if a = 1 then paV kd num v x else teV kd num v x
def pfL (a kd : Int32) : List Int32 := if a = 0 then shL kd else if a = 1 then paL kd else teL kd
theorem pfL_l {a kd : Int32} : (pfL a kd).length ≤ 8 := by
  unfold pfL
  split
  · have := shL_l (kd := kd); omega
  · split
    · have := paL_l (kd := kd); omega
    · exact teL_l
theorem i02 {w : Int32} (h : 0 ≤ w ∧ w ≤ 2) : w = 0 ∨ w = 1 ∨ w = 2 := by grind
theorem m_perf {g : xG} {nx : Nat} {sh : Nat → Nat × Nat} {P : Nat → Nat → Option Nat} {I : Nat → Nat → Int32} (hx : xFx sh P) {a : Int32} (ha : 0 ≤ a ∧ a ≤ 2) {kd num v x : Int32} {r : Nat} (hr : I 125 1 = nI r) (hkd : I 125 3 = kd) (hnum : I 125 2 = num) (hv : I 125 4 = v) (hk6 : ∃ f, f < 7 ∧ kd = nI f) (hr2 : r + 8 ≤ 20) : xMet g Y_Acts_perform 13 0 0 [.ref 125, .int a, .int x] (nx, sh, P, I) (fun z σ => z = some (.int (pfV a kd num v x)) ∧ σ = (nx, sh, P, xTr 126 125 1 I r (pfL a kd))) := by
  rcases i02 ha with rfl | rfl | rfl
  · exact m_perf0 hx hr hkd hnum hv hk6 hr2
  · exact m_perf1 hx hr hkd hnum hv hk6 hr2
  · exact m_perf2 hx hr hkd hnum hv hk6 hr2
theorem a_trE {f f' : Nat → Int32} {n : Nat} {i : Int32} (hn : n ≤ 20) (h : ∀ j, j < n → f j = f' j) : a_trace f (nI n) i = a_trace f' (nI n) i := by
  unfold a_trace
  by_cases hc : 0 ≤ i ∧ i ≤ (if nI n < 20 then nI n else 20) - 1
  · rw [if_pos hc, if_pos hc]
    apply h
    have h2 : (if nI n < 20 then nI n else 20) = nI n := by
      by_cases h9 : nI n < 20
      · rw [if_pos h9]
      · rw [if_neg h9]
        have : ¬ n < 20 := fun z => h9 ((nI_ltI (b := 20) (by omega) (by decide)).mpr z)
        rw [show n = 20 by omega]; rfl
    rw [h2] at hc
    have h3 := lt_pred (by omega) hc.1 hc.2
    exact i_lt (by omega) (Int32.not_lt.mpr h3.1) h3.2
  · rw [if_neg hc, if_neg hc]
theorem a_trI {f : Nat → Int32} {n : Nat} {i : Int32} (hn : n ≤ 20) : a_trace f (nI n) i = if 0 ≤ i ∧ i < nI n then f i.toNatClampNeg else -1 := by
  have h2 : (if nI n < 20 then nI n else 20) = nI n := by
    by_cases h9 : nI n < 20
    · rw [if_pos h9]
    · rw [if_neg h9]
      have : ¬ n < 20 := fun z => h9 ((nI_ltI (b := 20) (by omega) (by decide)).mpr z)
      rw [show n = 20 by omega]; rfl
  unfold a_trace
  rw [h2]
  by_cases hc : 0 ≤ i ∧ i < nI n
  · rw [if_pos hc, if_pos ⟨hc.1, by
      obtain ⟨j, hj, rfl⟩ := i_2 (by omega) hc
      obtain ⟨q, rfl⟩ : ∃ q, n = q + 1 := ⟨n - 1, by omega⟩
      rw [nI_pred]; exact nI_le (by omega) (by omega)⟩]
  · rw [if_neg hc, if_neg (fun y => hc (lt_pred (by omega) y.1 y.2))]
set_option maxHeartbeats 4000000 in
set_option maxRecDepth 100000 in
theorem m_Acts_traced {g : xG} {nx : Nat} {sh : Nat → Nat × Nat} {P : Nat → Nat → Option Nat} {I : Nat → Nat → Int32} (hx : xFx sh P) {i : Int32} {n : Nat} (hr : I 125 1 = nI n) (hn : n ≤ 20) : xMet g Y_Acts_traced 0 0 0 [.ref 125, .int i] (nx, sh, P, I) (fun r σ => r = some (.int (a_trace (I 126) (nI n) i)) ∧ σ = (nx, sh, P, I)) := by
  refine xMet.of [some (.ref 125), some (.int i)] (by decide +kernel) (Nat.le_of_ble_eq_true rfl) rfl ?_
  refine x_iload_n dX0_traced_0 rfl ?_
  refine x_if_lt (tgt := 30) dX0_traced_1 rfl (fun c1 => ?_) (fun c1 => ?_)
  · refine x_iconst (v := (-1)) dX0_traced_30 (by decide) ?_
    refine x_ireturn dX0_traced_31 rfl nb_int ?_
    first
    | (have h9 := Int32.not_le.mp c9; have h8 := Int32.not_le.mp c18; exact ⟨by rw [a_trI hn, if_pos ⟨Int32.not_lt.mp c1, h9⟩], rfl⟩)
    | (have h9 := Int32.not_le.mpr c1; exact ⟨by rw [a_trI hn, if_neg (fun y => h9 y.1)], rfl⟩)
    | (have h9 := Int32.not_lt.mpr c9; exact ⟨by rw [a_trI hn, if_neg (fun y => h9 y.2)], rfl⟩)
    | (exfalso; have h9 := Int32.not_le.mp c9; exact Int32.lt_irrefl (Int32.lt_of_lt_of_le h9 (Int32.le_trans (nI_le (b := 20) hn (by decide)) c18)))
  · refine x_iload_n dX0_traced_4 rfl ?_
    refine x_aload_n dX0_traced_5 rfl ?_
    refine y_geti dX0_traced_6 F_Acts_15 (fxo_125 hx) rfl hr ?_
    refine x_icmp_ge (tgt := 30) dX0_traced_9 rfl (fun c9 => ?_) (fun c9 => ?_)
    · skip
      refine x_iconst (v := (-1)) dX0_traced_30 (by decide) ?_
      refine x_ireturn dX0_traced_31 rfl nb_int ?_
      first
      | (have h9 := Int32.not_le.mp c9; have h8 := Int32.not_le.mp c18; exact ⟨by rw [a_trI hn, if_pos ⟨Int32.not_lt.mp c1, h9⟩], rfl⟩)
      | (have h9 := Int32.not_le.mpr c1; exact ⟨by rw [a_trI hn, if_neg (fun y => h9 y.1)], rfl⟩)
      | (have h9 := Int32.not_lt.mpr c9; exact ⟨by rw [a_trI hn, if_neg (fun y => h9 y.2)], rfl⟩)
      | (exfalso; have h9 := Int32.not_le.mp c9; exact Int32.lt_irrefl (Int32.lt_of_lt_of_le h9 (Int32.le_trans (nI_le (b := 20) hn (by decide)) c18)))
    · refine x_iload_n dX0_traced_12 rfl ?_
      refine x_aload_n dX0_traced_13 rfl ?_
      refine y_getr dX0_traced_14 F_Acts_9 (fxo_125 hx) rfl (fxp_125_0 hx) ?_
      refine y_alen dX0_traced_17 (fxk_126 hx) (by decide) ?_
      refine x_icmp_ge (tgt := 30) dX0_traced_18 rfl (fun c18 => ?_) (fun c18 => ?_)
      · refine x_iconst (v := (-1)) dX0_traced_30 (by decide) ?_
        refine x_ireturn dX0_traced_31 rfl nb_int ?_
        first
        | (have h9 := Int32.not_le.mp c9; have h8 := Int32.not_le.mp c18; exact ⟨by rw [a_trI hn, if_pos ⟨Int32.not_lt.mp c1, h9⟩], rfl⟩)
        | (have h9 := Int32.not_le.mpr c1; exact ⟨by rw [a_trI hn, if_neg (fun y => h9 y.1)], rfl⟩)
        | (have h9 := Int32.not_lt.mpr c9; exact ⟨by rw [a_trI hn, if_neg (fun y => h9 y.2)], rfl⟩)
        | (exfalso; have h9 := Int32.not_le.mp c9; exact Int32.lt_irrefl (Int32.lt_of_lt_of_le h9 (Int32.le_trans (nI_le (b := 20) hn (by decide)) c18)))
      · refine x_aload_n dX0_traced_21 rfl ?_
        refine y_getr dX0_traced_22 F_Acts_9 (fxo_125 hx) rfl (fxp_125_0 hx) ?_
        refine x_iload_n dX0_traced_25 rfl ?_
        refine y_iaload dX0_traced_26 (fxk_126 hx) (vin (by decide) c1 c18) rfl ?_
        refine x_goto (tgt := 31) dX0_traced_27 rfl ?_
        refine x_ireturn dX0_traced_31 rfl nb_int ?_
        first
        | (have h9 := Int32.not_le.mp c9; have h8 := Int32.not_le.mp c18; exact ⟨by rw [a_trI hn, if_pos ⟨Int32.not_lt.mp c1, h9⟩], rfl⟩)
        | (have h9 := Int32.not_le.mpr c1; exact ⟨by rw [a_trI hn, if_neg (fun y => h9 y.1)], rfl⟩)
        | (have h9 := Int32.not_lt.mpr c9; exact ⟨by rw [a_trI hn, if_neg (fun y => h9 y.2)], rfl⟩)
        | (exfalso; have h9 := Int32.not_le.mp c9; exact Int32.lt_irrefl (Int32.lt_of_lt_of_le h9 (Int32.le_trans (nI_le (b := 20) hn (by decide)) c18)))

set_option maxHeartbeats 4000000 in
set_option maxRecDepth 100000 in
theorem m_C_trace {g : xG} {nx : Nat} {sh : Nat → Nat × Nat} {P : Nat → Nat → Option Nat} {I : Nat → Nat → Int32} (hx : xFx sh P) {i : Int32} {n : Nat} (hr : I 125 1 = nI n) (hn : n ≤ 20) : xMet g Y_C_trace 1 0 0 [.ref 64, .int i] (nx, sh, P, I) (fun r σ => r = some (.int (a_trace (I 126) (nI n) i)) ∧ σ = (nx, sh, P, I)) := by
  refine xMet.of [some (.ref 64), some (.int i)] (by decide +kernel) (Nat.le_of_ble_eq_true rfl) rfl ?_
  refine x_aload_n dX10_trace_0 rfl ?_
  refine y_getr dX10_trace_1 F_C_67 (fxo_64 hx) rfl (fxp_64_7 hx) ?_
  refine x_iload_n dX10_trace_4 rfl ?_
  refine x_callV (k2 := 0) (n2 := 0) dX10_trace_5 LV_C_241 (m_Acts_traced hx hr hn) rfl rfl (fxo_125 hx) rfl (Nat.le_of_ble_eq_true rfl) (Nat.le_of_ble_eq_true rfl) (Nat.le_of_ble_eq_true rfl) (Nat.le_of_ble_eq_true rfl) ?_
  rintro _ _ ⟨rfl, rfl⟩
  refine x_ireturn dX10_trace_8 rfl nb_int ?_
  exact ⟨rfl, rfl⟩

set_option maxHeartbeats 4000000 in
set_option maxRecDepth 100000 in
theorem m_C_as {g : xG} {nx : Nat} {sh : Nat → Nat × Nat} {P : Nat → Nat → Option Nat} {I : Nat → Nat → Int32} (hx : xFx sh P) {s : Nat → Int32} (hW : xWN nx sh P I s) (hR : RI s) {c k : Int32} : xMet g Y_C_as 2 0 0 [.ref 64, .int c, .int k] (nx, sh, P, I) (fun r σ => r = some (.int (a_as s c k)) ∧ σ = (nx, sh, P, I)) := by
  refine xMet.of [some (.ref 64), some (.int c), some (.int k), none, none] (by decide +kernel) (Nat.le_of_ble_eq_true rfl) rfl ?_
  obtain ⟨⟨tTape, tCoins, tWares, tBuys, tSlates, tPlans, tBooked⟩, ⟨cTape, cCoins, cWares, cBuys, cSlates, cPlans, cBooked⟩, hW7, hW9, hL⟩ := id hW
  obtain ⟨⟨n0, b0, e0⟩, ⟨n1, b1, e1⟩, ⟨n2, b2, e2⟩, ⟨n3, b3, e3⟩, ⟨n4, b4, e4⟩, ⟨n5, b5, e5⟩, ⟨n6, b6, e6⟩, ⟨n7, b7, e7⟩, ⟨n9, b9, e9⟩⟩ := hR.k
  have k7 : cN s 7 = n7 := cN_of e7 (by omega)
  rw [k7] at tTape cTape
  have k0 : cN s 0 = n0 := cN_of e0 (by omega)
  rw [k0] at tCoins cCoins
  have k1 : cN s 1 = n1 := cN_of e1 (by omega)
  rw [k1] at tWares cWares
  have k3 : cN s 3 = n3 := cN_of e3 (by omega)
  rw [k3] at tBuys cBuys
  have k4 : cN s 4 = n4 := cN_of e4 (by omega)
  rw [k4] at tSlates cSlates
  have k5 : cN s 5 = n5 := cN_of e5 (by omega)
  rw [k5] at tPlans cPlans
  have k6 : cN s 6 = n6 := cN_of e6 (by omega)
  rw [k6] at tBooked cBooked
  refine x_aload_n dX10_as_0 rfl ?_
  refine y_getr dX10_as_1 F_C_12 (fxo_64 hx) rfl (fxp_64_0 hx) ?_
  refine y_getr dX10_as_4 F_C_110 (fxo_65 hx) rfl (fxp_65_1 hx) ?_
  refine x_iload_n dX10_as_7 rfl ?_
  refine x_callV (k2 := 0) (n2 := 0) dX10_as_8 LV_C_113 (m_Table_has tCoins) rfl rfl (fxo_68 hx) rfl (Nat.le_of_ble_eq_true rfl) (Nat.le_of_ble_eq_true rfl) (Nat.le_of_ble_eq_true rfl) (Nat.le_of_ble_eq_true rfl) ?_
  rintro _ _ ⟨rfl, rfl⟩
  refine x_if_eq (tgt := 24) dX10_as_11 rfl (fun c11 => ?_) (fun c11 => ?_)
  · refine x_iconst (v := (-1)) dX10_as_24 (by decide) ?_
    refine x_ireturn dX10_as_25 rfl nb_int ?_
    first
    | (have h9 := b_f c11; exact ⟨by unfold a_as; rw [e0, if_neg (fun y => h9 y.1)], rfl⟩)
    | (have h9 := o_f c21; exact ⟨by unfold a_as; rw [if_neg (fun y => h9 y.2)], rfl⟩)
  · refine x_iload_n dX10_as_14 rfl ?_
    refine x_iconst (v := 0) dX10_as_15 (by decide) ?_
    refine x_bipush (v := 6) dX10_as_16 (by decide) ?_
    refine x_callS (k2 := 0) (n2 := 0) dX10_as_18 LS_C_71 m_C_isOutside rfl rfl (Nat.le_of_ble_eq_true rfl) (Nat.le_of_ble_eq_true rfl) (Nat.le_of_ble_eq_true rfl) (Nat.le_of_ble_eq_true rfl) ?_
    rintro _ _ ⟨rfl, rfl⟩
    refine x_if_eq (tgt := 26) dX10_as_21 rfl (fun c21 => ?_) (fun c21 => ?_)
    · obtain ⟨q, hq, rfl⟩ := i_2 (n := n0) (by omega) (b_t c11)
      have hqc : q < cN s 0 := by rw [k0]; exact hq
      obtain ⟨kk, hk0, hk6, hkk⟩ := i_btw (x := k) (a := 0) (b := 6) (by decide) (o_t c21)
      subst hkk
      obtain ⟨kd, hkd6, hkd⟩ := hR.kd hqc
      refine x_aload_n dX10_as_26 rfl ?_
      refine y_getr dX10_as_27 F_C_12 (fxo_64 hx) rfl (fxp_64_0 hx) ?_
      refine y_getr dX10_as_30 F_C_110 (fxo_65 hx) rfl (fxp_65_1 hx) ?_
      refine x_iload_n dX10_as_33 rfl ?_
      refine x_iconst (v := 0) dX10_as_34 (by decide) ?_
      refine x_callV (k2 := 0) (n2 := 0) dX10_as_35 LV_C_125 (m_Table_get tCoins (x := nI q) (z := nI 0)) rfl rfl (fxo_68 hx) rfl (Nat.le_of_ble_eq_true rfl) (Nat.le_of_ble_eq_true rfl) (Nat.le_of_ble_eq_true rfl) (Nat.le_of_ble_eq_true rfl) ?_
      rintro _ _ ⟨rfl, rfl⟩
      rw [xTg_in (r := q) (k := 0) (by omega) (by omega) (by omega) (by omega), (cCoins q hq).1, hkd]
      refine x_istore_n dX10_as_38 (Nat.le_of_ble_eq_true rfl) ?_
      try simp only [xst, xst2, xclr, xset, xwide]
      refine x_iconst (v := 0) dX10_as_39 (by decide) ?_
      refine x_istore dX10_as_40 (Nat.le_of_ble_eq_true rfl) ?_
      try simp only [xst, xst2, xclr, xset, xwide]
      have K42 : ∀ (fuel : Nat) (i : Nat) (z : Int32) (hi : i ≤ 7) (hz : asS (7 - i) z (nI kk) = asS 7 (nI kd) (nI kk)), 7 - i < fuel → xX g Y_C_as 2 0 0 (fun r σ => r = some (.int (a_as s (nI q) (nI kk))) ∧ σ = (nx, sh, P, I)) 42 [some (.ref 64), some (.int (nI q)), some (.int (nI kk)), some (.int z), some (.int (nI i))] [] (nx, sh, P, I) := by
        intro fuel
        induction fuel with
        | zero => intro i z hi hz hm; exact absurd hm (Nat.not_lt_zero _)
        | succ fuel ih42 =>
          intro i z hi hz hm
          refine x_iload dX10_as_42 rfl ?_
          refine x_getsK dX10_as_44 S_C_244 ?_
          refine x_oalen dX10_as_47 xOa_K ?_
          refine x_icmp_ge (tgt := 80) dX10_as_48 rfl (fun c48 => ?_) (fun c48 => ?_)
          · have hie : i = 7 := cge_t (by decide) hi c48
            refine x_bipush (v := (-6)) dX10_as_80 (by decide) ?_
            refine x_ireturn dX10_as_82 rfl nb_int ?_
            have hu : undr (nI kd) (nI kk) = false := by rw [← as_u ⟨kd, by omega⟩ ⟨kk, by omega⟩, ← hz, hie]; rfl
            exact ⟨by unfold a_as; rw [if_pos ⟨(show 0 ≤ nI q ∧ nI q < s 0 from by rw [e0]; exact b_t c11), o_t c21⟩, nI_clamp (by omega), hkd, if_neg (by rw [hu]; decide)], rfl⟩
          · have him : i < 7 := cge_f (by decide) hi c48
            refine x_iload_n dX10_as_51 rfl ?_
            refine x_iload_n dX10_as_52 rfl ?_
            refine x_icmp_ne (tgt := 69) dX10_as_53 rfl (fun c53 => ?_) (fun c53 => ?_)
            · refine x_iload_n dX10_as_69 rfl ?_
              refine x_callS (k2 := 0) (n2 := 0) dX10_as_70 LS_C_248 m_C_kindAbove rfl rfl (Nat.le_of_ble_eq_true rfl) (Nat.le_of_ble_eq_true rfl) (Nat.le_of_ble_eq_true rfl) (Nat.le_of_ble_eq_true rfl) ?_
              rintro _ _ ⟨rfl, rfl⟩
              refine x_istore_n dX10_as_73 (Nat.le_of_ble_eq_true rfl) ?_
              try simp only [xst, xst2, xclr, xset, xwide]
              refine x_iinc (v := (nI (i + 1))) dX10_as_74 rfl (nI_1 _) (Nat.le_of_ble_eq_true rfl) ?_
              try simp only [xst, xst2, xclr, xset, xwide]
              refine x_goto (tgt := 42) dX10_as_77 rfl ?_
              exact ih42 (i + 1) _ (by omega) (by rw [← hz, show 7 - i = (7 - (i + 1)) + 1 by omega, asS_s, if_neg c53]) (by omega)
            · refine x_aload_n dX10_as_56 rfl ?_
              refine y_getr dX10_as_57 F_C_12 (fxo_64 hx) rfl (fxp_64_0 hx) ?_
              refine y_getr dX10_as_60 F_C_110 (fxo_65 hx) rfl (fxp_65_1 hx) ?_
              refine x_iload_n dX10_as_63 rfl ?_
              refine x_iconst (v := 1) dX10_as_64 (by decide) ?_
              refine x_callV (k2 := 0) (n2 := 0) dX10_as_65 LV_C_125 (m_Table_get tCoins (x := nI q) (z := nI 1)) rfl rfl (fxo_68 hx) rfl (Nat.le_of_ble_eq_true rfl) (Nat.le_of_ble_eq_true rfl) (Nat.le_of_ble_eq_true rfl) (Nat.le_of_ble_eq_true rfl) ?_
              rintro _ _ ⟨rfl, rfl⟩
              rw [xTg_in (r := q) (k := 1) (by omega) (by omega) (by omega) (by omega), (cCoins q hq).2.1]
              refine x_ireturn dX10_as_68 rfl nb_int ?_
              have hu : undr (nI kd) (nI kk) = true := by rw [← as_u ⟨kd, by omega⟩ ⟨kk, by omega⟩, ← hz, show 7 - i = (7 - (i + 1)) + 1 by omega, asS_s, if_pos c53]
              exact ⟨by unfold a_as; rw [if_pos ⟨(show 0 ≤ nI q ∧ nI q < s 0 from by rw [e0]; exact b_t c11), o_t c21⟩, nI_clamp (by omega), hkd, if_pos hu], rfl⟩
      exact K42 _ 0 (nI kd) (Nat.zero_le _) rfl (Nat.lt_succ_self _)
    · refine x_iconst (v := (-1)) dX10_as_24 (by decide) ?_
      refine x_ireturn dX10_as_25 rfl nb_int ?_
      first
      | (have h9 := b_f c11; exact ⟨by unfold a_as; rw [e0, if_neg (fun y => h9 y.1)], rfl⟩)
      | (have h9 := o_f c21; exact ⟨by unfold a_as; rw [if_neg (fun y => h9 y.2)], rfl⟩)

set_option maxHeartbeats 4000000 in
set_option maxRecDepth 100000 in
theorem m_C_act {g : xG} {nx : Nat} {sh : Nat → Nat × Nat} {P : Nat → Nat → Option Nat} {I : Nat → Nat → Int32} (hx : xFx sh P) {s : Nat → Int32} (hW : xWN nx sh P I s) (hR : RI s) {c a x : Int32} : xMet g Y_C_act 14 0 0 [.ref 64, .int c, .int a, .int x] (nx, sh, P, I) (fun r σ => ∃ I1 : Nat → Nat → Int32, r = some (.int (a_act s c a x)) ∧ σ = (nx, sh, P, I1) ∧ (I1 125 1 = nI (l_act s c a).length ∧ (l_act s c a).length ≤ 20 ∧ ∀ j, j < (l_act s c a).length → I1 126 j = (l_act s c a).getD j 0) ∧ xFrm [125, 126] I I1) := by
  refine xMet.of [some (.ref 64), some (.int c), some (.int a), some (.int x)] (by decide +kernel) (Nat.le_of_ble_eq_true rfl) rfl ?_
  obtain ⟨⟨tTape, tCoins, tWares, tBuys, tSlates, tPlans, tBooked⟩, ⟨cTape, cCoins, cWares, cBuys, cSlates, cPlans, cBooked⟩, hW7, hW9, hL⟩ := id hW
  obtain ⟨⟨n0, b0, e0⟩, ⟨n1, b1, e1⟩, ⟨n2, b2, e2⟩, ⟨n3, b3, e3⟩, ⟨n4, b4, e4⟩, ⟨n5, b5, e5⟩, ⟨n6, b6, e6⟩, ⟨n7, b7, e7⟩, ⟨n9, b9, e9⟩⟩ := hR.k
  have k7 : cN s 7 = n7 := cN_of e7 (by omega)
  rw [k7] at tTape cTape
  have k0 : cN s 0 = n0 := cN_of e0 (by omega)
  rw [k0] at tCoins cCoins
  have k1 : cN s 1 = n1 := cN_of e1 (by omega)
  rw [k1] at tWares cWares
  have k3 : cN s 3 = n3 := cN_of e3 (by omega)
  rw [k3] at tBuys cBuys
  have k4 : cN s 4 = n4 := cN_of e4 (by omega)
  rw [k4] at tSlates cSlates
  have k5 : cN s 5 = n5 := cN_of e5 (by omega)
  rw [k5] at tPlans cPlans
  have k6 : cN s 6 = n6 := cN_of e6 (by omega)
  rw [k6] at tBooked cBooked
  refine x_aload_n dX10_act_0 rfl ?_
  refine y_getr dX10_act_1 F_C_67 (fxo_64 hx) rfl (fxp_64_7 hx) ?_
  refine x_callV (k2 := 0) (n2 := 0) dX10_act_4 LV_C_231 (m_Acts_forget hx) rfl rfl (fxo_125 hx) rfl (Nat.le_of_ble_eq_true rfl) (Nat.le_of_ble_eq_true rfl) (Nat.le_of_ble_eq_true rfl) (Nat.le_of_ble_eq_true rfl) ?_
  rintro _ _ ⟨rfl, rfl⟩
  refine x_aload_n dX10_act_7 rfl ?_
  refine y_getr dX10_act_8 F_C_12 (fxo_64 hx) rfl (fxp_64_0 hx) ?_
  refine y_getr dX10_act_11 F_C_110 (fxo_65 hx) rfl (fxp_65_1 hx) ?_
  refine x_iload_n dX10_act_14 rfl ?_
  refine x_callV (k2 := 0) (n2 := 0) dX10_act_15 LV_C_113 (m_Table_has (I := xup I 125 1 0) (tCoins.other (xup_n (by decide)))) rfl rfl (fxo_68 hx) rfl (Nat.le_of_ble_eq_true rfl) (Nat.le_of_ble_eq_true rfl) (Nat.le_of_ble_eq_true rfl) (Nat.le_of_ble_eq_true rfl) ?_
  rintro _ _ ⟨rfl, rfl⟩
  refine x_if_eq (tgt := 30) dX10_act_18 rfl (fun c18 => ?_) (fun c18 => ?_)
  · refine x_iconst (v := 0) dX10_act_30 (by decide) ?_
    refine x_ireturn dX10_act_31 rfl nb_int ?_
    have hno : ¬ ((0 ≤ c ∧ c < s 0) ∧ 0 ≤ a ∧ a ≤ 2) := by
      rw [e0]
      first
      | (have h9 := b_f c18; exact fun y => h9 y.1)
      | (have h9 := o_f c27; exact fun y => h9 y.2)
    exact ⟨_, by unfold a_act; rw [if_neg hno], rfl, ⟨by unfold l_act; rw [if_neg hno, xs]; rfl, by unfold l_act; rw [if_neg hno]; decide, fun j hj => by unfold l_act at hj; rw [if_neg hno] at hj; exact absurd hj (Nat.not_lt_zero j)⟩, xFrs xFrm.rf⟩
  · refine x_iload_n dX10_act_21 rfl ?_
    refine x_iconst (v := 0) dX10_act_22 (by decide) ?_
    refine x_iconst (v := 2) dX10_act_23 (by decide) ?_
    refine x_callS (k2 := 0) (n2 := 0) dX10_act_24 LS_C_71 m_C_isOutside rfl rfl (Nat.le_of_ble_eq_true rfl) (Nat.le_of_ble_eq_true rfl) (Nat.le_of_ble_eq_true rfl) (Nat.le_of_ble_eq_true rfl) ?_
    rintro _ _ ⟨rfl, rfl⟩
    refine x_if_eq (tgt := 32) dX10_act_27 rfl (fun c27 => ?_) (fun c27 => ?_)
    · obtain ⟨q, hq, rfl⟩ := i_2 (n := n0) (by omega) (b_t c18)
      have hqc : q < cN s 0 := by rw [k0]; exact hq
      refine x_aload_n dX10_act_32 rfl ?_
      refine y_getr dX10_act_33 F_C_67 (fxo_64 hx) rfl (fxp_64_7 hx) ?_
      refine x_iload_n dX10_act_36 rfl ?_
      refine x_aload_n dX10_act_37 rfl ?_
      refine y_getr dX10_act_38 F_C_12 (fxo_64 hx) rfl (fxp_64_0 hx) ?_
      refine y_getr dX10_act_41 F_C_110 (fxo_65 hx) rfl (fxp_65_1 hx) ?_
      refine x_iload_n dX10_act_44 rfl ?_
      refine x_iconst (v := 0) dX10_act_45 (by decide) ?_
      refine x_callV (k2 := 0) (n2 := 0) dX10_act_46 LV_C_125 (m_Table_get (I := xup I 125 1 0) (tCoins.other (xup_n (by decide))) (x := nI q) (z := nI 0)) rfl rfl (fxo_68 hx) rfl (Nat.le_of_ble_eq_true rfl) (Nat.le_of_ble_eq_true rfl) (Nat.le_of_ble_eq_true rfl) (Nat.le_of_ble_eq_true rfl) ?_
      rintro _ _ ⟨rfl, rfl⟩
      rw [xTg_in (r := q) (k := 0) (by omega) (by omega) (by omega) (by omega), xup_n (by decide), (cCoins q hq).1]
      refine x_aload_n dX10_act_49 rfl ?_
      refine y_getr dX10_act_50 F_C_12 (fxo_64 hx) rfl (fxp_64_0 hx) ?_
      refine y_getr dX10_act_53 F_C_110 (fxo_65 hx) rfl (fxp_65_1 hx) ?_
      refine x_iload_n dX10_act_56 rfl ?_
      refine x_iconst (v := 1) dX10_act_57 (by decide) ?_
      refine x_callV (k2 := 0) (n2 := 0) dX10_act_58 LV_C_125 (m_Table_get (I := xup I 125 1 0) (tCoins.other (xup_n (by decide))) (x := nI q) (z := nI 1)) rfl rfl (fxo_68 hx) rfl (Nat.le_of_ble_eq_true rfl) (Nat.le_of_ble_eq_true rfl) (Nat.le_of_ble_eq_true rfl) (Nat.le_of_ble_eq_true rfl) ?_
      rintro _ _ ⟨rfl, rfl⟩
      rw [xTg_in (r := q) (k := 1) (by omega) (by omega) (by omega) (by omega), xup_n (by decide), (cCoins q hq).2.1]
      refine x_callV (k2 := 0) (n2 := 0) dX10_act_61 LV_C_234 (m_Acts_take hx) rfl rfl (fxo_125 hx) rfl (Nat.le_of_ble_eq_true rfl) (Nat.le_of_ble_eq_true rfl) (Nat.le_of_ble_eq_true rfl) (Nat.le_of_ble_eq_true rfl) ?_
      rintro _ _ ⟨rfl, rfl⟩
      obtain ⟨J, hJ⟩ : ∃ J, J = xup (xup (xup (xup I 125 1 0) 125 2 (nI q)) 125 3 (s (10 + q))) 125 4 (s (14 + q)) := ⟨_, rfl⟩
      refine y_st (I' := J) hJ.symm ?_
      have j1 : J 125 1 = nI 0 := by rw [hJ, xf (by decide), xf (by decide), xf (by decide), xs]; rfl
      have j2 : J 125 2 = nI q := by rw [hJ, xf (by decide), xf (by decide), xs]
      have j3 : J 125 3 = s (10 + q) := by rw [hJ, xf (by decide), xs]
      have j4 : J 125 4 = s (14 + q) := by rw [hJ, xs]
      have jF : xFrm [125, 126] I J := by rw [hJ]; exact xFrs (xFrs (xFrs (xFrs xFrm.rf)))
      obtain ⟨kd, hkd6, hkd⟩ := hR.kd hqc
      refine x_aload_n dX10_act_64 rfl ?_
      refine y_getr dX10_act_65 F_C_67 (fxo_64 hx) rfl (fxp_64_7 hx) ?_
      refine x_iload_n dX10_act_68 rfl ?_
      refine x_iload_n dX10_act_69 rfl ?_
      refine x_callV (k2 := 0) (n2 := 0) dX10_act_70 LV_C_238 (m_perf (I := J) (r := 0) hx (o_t c27) (hr := j1) (hkd := j3) (hnum := j2) (hv := j4) (hk6 := ⟨kd, by omega, hkd⟩) (hr2 := by decide)) rfl rfl (fxo_125 hx) rfl (Nat.le_of_ble_eq_true rfl) (Nat.le_of_ble_eq_true rfl) (Nat.le_of_ble_eq_true rfl) (Nat.le_of_ble_eq_true rfl) ?_
      rintro _ _ ⟨rfl, rfl⟩
      refine x_ireturn dX10_act_73 rfl nb_int ?_
      have hyes : (0 ≤ nI q ∧ nI q < s 0) ∧ 0 ≤ a ∧ a ≤ 2 := ⟨(show 0 ≤ nI q ∧ nI q < s 0 from by rw [e0]; exact b_t c18), o_t c27⟩
      have hla : l_act s (nI q) a = pfL a (s (10 + q)) := by unfold l_act; rw [if_pos hyes, nI_clamp (by omega)]; rfl
      have hpl := pfL_l (a := a) (kd := s (10 + q))
      refine ⟨_, by unfold a_act; rw [if_pos hyes, nI_clamp (by omega)]; rfl, rfl, ⟨?_, by rw [hla]; omega, fun j hj => ?_⟩, fun b hb => (xTr_no (fun z => hb (by rw [z]; decide)) (fun z => hb (by rw [z]; decide))).trans (jF b hb)⟩
      · rw [xT1 j1, hla, Nat.zero_add]
      · rw [hla] at hj ⊢
        have h9 := xTr_in (tr := 126) (ob := 125) (fk := 1) (I := J) (r := 0) (by decide) hj
        rw [Nat.zero_add] at h9; exact h9
    · refine x_iconst (v := 0) dX10_act_30 (by decide) ?_
      refine x_ireturn dX10_act_31 rfl nb_int ?_
      have hno : ¬ ((0 ≤ c ∧ c < s 0) ∧ 0 ≤ a ∧ a ≤ 2) := by
        rw [e0]
        first
        | (have h9 := b_f c18; exact fun y => h9 y.1)
        | (have h9 := o_f c27; exact fun y => h9 y.2)
      exact ⟨_, by unfold a_act; rw [if_neg hno], rfl, ⟨by unfold l_act; rw [if_neg hno, xs]; rfl, by unfold l_act; rw [if_neg hno]; decide, fun j hj => by unfold l_act at hj; rw [if_neg hno] at hj; exact absurd hj (Nat.not_lt_zero j)⟩, xFrs xFrm.rf⟩
