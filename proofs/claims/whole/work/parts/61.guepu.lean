/-! the class: what the buys tell -/
theorem loS_z {f : Nat → Nat} : ∀ k w, w + k < 100 → (loS f k w = -5 ↔ ∀ j, j < k → f (w + j) = 0)
  | 0, w, _ => ⟨fun _ j hj => absurd hj (Nat.not_lt_zero j), fun _ => rfl⟩
  | k + 1, w, hwk => by
    show (if 0 < f w then nI w else loS f k (w + 1)) = -5 ↔ _
    by_cases h : 0 < f w
    · rw [if_pos h]
      exact ⟨fun z => absurd z (nI_m5 (by omega)), fun z => absurd (z 0 (by omega)) (by show ¬ f w = 0; omega)⟩
    · rw [if_neg h, loS_z k (w + 1) (by omega)]
      refine ⟨fun z j hj => ?_, fun z j hj => ?_⟩
      · match j, hj with
        | 0, _ => show f w = 0; omega
        | j + 1, hj => rw [show w + (j + 1) = w + 1 + j by omega]; exact z j (by omega)
      · have := z (j + 1) (by omega)
        rw [show w + (j + 1) = w + 1 + j by omega] at this
        exact this
theorem lo_ct {s : Nat → Int32} (hR : RI s) {c : Nat} : loS (ctW s c) 9 1 = -5 ↔ ctN s = 0 := by
  rw [loS_z 9 1 (by decide)]
  obtain ⟨h1, h9, -⟩ := tN_bd hR
  have e1 : ctN s = 0 ↔ ∀ i, i < gN s → okG s (tN s) (cN s 3) i = false := ct_pos _
  have e2 : ∀ w, ctW s c w = 0 ↔ ∀ i, i < gN s → okW s (tN s) (cN s 3) c w i = false := fun w => ct_pos _
  rw [e1]
  constructor
  · intro h i hi
    have hd := dg_in (t := tN s) (g := i) (c := c) h1 h9
    have := (e2 (dg (tN s) i c)).mp (by
      have := h (dg (tN s) i c - 1) (by omega)
      rw [show 1 + (dg (tN s) i c - 1) = dg (tN s) i c by omega] at this
      exact this) i hi
    cases hz : okG s (tN s) (cN s 3) i
    · rfl
    · rw [okW_t hz rfl] at this; exact absurd this (by decide)
  · intro h j hj
    rw [e2]
    intro i hi
    cases hz : okW s (tN s) (cN s 3) c (1 + j) i
    · rfl
    · exact absurd hz (okW_f (by rw [h i hi]; decide))
theorem ct_3 {p : Nat → Bool} {f : Nat → Nat} (hf : ∀ i, f i < 3) : ∀ n, ctB (fun i => p i && decide (f i = 2)) n + ctB (fun i => p i && decide (f i = 0)) n + ctB (fun i => p i && decide (f i = 1)) n = ctB p n
  | 0 => rfl
  | n + 1 => by
    have ih := ct_3 (p := p) hf n
    have h3 := hf n
    show ctB (fun i => p i && decide (f i = 2)) n + (if (p n && decide (f n = 2)) = true then 1 else 0) + (ctB (fun i => p i && decide (f i = 0)) n + (if (p n && decide (f n = 0)) = true then 1 else 0)) + (ctB (fun i => p i && decide (f i = 1)) n + (if (p n && decide (f n = 1)) = true then 1 else 0)) = ctB p n + (if p n = true then 1 else 0)
    cases hp : p n
    · rw [Bool.false_and, Bool.false_and, Bool.false_and, if_neg (by decide)]; omega
    · rw [Bool.true_and, Bool.true_and, Bool.true_and]
      rcases (show f n = 0 ∨ f n = 1 ∨ f n = 2 by omega) with h | h | h
      · rw [h]; show ctB (fun i => p i && decide (f i = 2)) n + 0 + (ctB (fun i => p i && decide (f i = 0)) n + 1) + (ctB (fun i => p i && decide (f i = 1)) n + 0) = ctB p n + 1; omega
      · rw [h]; show ctB (fun i => p i && decide (f i = 2)) n + 0 + (ctB (fun i => p i && decide (f i = 0)) n + 0) + (ctB (fun i => p i && decide (f i = 1)) n + 1) = ctB p n + 1; omega
      · rw [h]; show ctB (fun i => p i && decide (f i = 2)) n + 1 + (ctB (fun i => p i && decide (f i = 0)) n + 0) + (ctB (fun i => p i && decide (f i = 1)) n + 0) = ctB p n + 1; omega
theorem br_sum {s : Nat → Int32} (hR : RI s) {a b : Nat} (ha : a < cN s 0) (hb : b < cN s 0) : moS s a b (gN s) + leS s a b (gN s) + alS s a b (gN s) = ctN s := by
  rw [← br_mo hR ha hb, ← br_le hR ha hb, ← br_al hR ha hb, ← br_left hR]
  exact ct_3 (p := okI s (tN s)) (f := fun i => cmN (gwV s (gvI (cN s 0) (tN s) i) a) (gwV s (gvI (cN s 0) (tN s) i) b)) (fun _ => cmN_lt) _
theorem al_sym {s : Nat → Int32} (hR : RI s) {a b : Nat} (ha : a < cN s 0) (hb : b < cN s 0) : alS s a b (gN s) = alS s b a (gN s) := by
  refine ctB_c _ (fun g _ => ?_)
  show (okG s (tN s) (cN s 3) g && decide (dfG s a b g = 0)) = (okG s (tN s) (cN s 3) g && decide (dfG s b a g = 0))
  have : (dfG s a b g = 0) ↔ (dfG s b a g = 0) := by
    rw [(df_e hR ha hb).2.2, (df_e hR hb ha).2.2]
    unfold cmN
    constructor
    · intro h
      split at h
      · cases h
      · split at h
        · rename_i z; rw [z, if_neg Int32.lt_irrefl, if_pos rfl]
        · cases h
    · intro h
      split at h
      · cases h
      · split at h
        · rename_i z; rw [z, if_neg Int32.lt_irrefl, if_pos rfl]
        · cases h
  rw [decide_eq_decide.mpr this]
theorem al_i {s : Nat → Int32} (hR : RI s) {a b : Nat} (ha : a < cN s 0) (hb : b < cN s 0) : (0 < ctN s ∧ alS s (min a b) (max a b) (gN s) = ctN s) ↔ (0 < alS s a b (gN s) ∧ moS s a b (gN s) = 0 ∧ leS s a b (gN s) = 0) := by
  have e : alS s (min a b) (max a b) (gN s) = alS s a b (gN s) := by
    by_cases h : a ≤ b
    · rw [Nat.min_eq_left h, Nat.max_eq_right h]
    · rw [Nat.min_eq_right (by omega), Nat.max_eq_left (by omega)]; exact al_sym hR hb ha
  have := br_sum hR ha hb
  rw [e]
  omega
def wC (s : Nat → Int32) (a b : Nat) : Nat := max (ctB (okC s (tN s) a b 1) (nGu s (tN s))) (max (ctB (okC s (tN s) a b 0) (nGu s (tN s))) (ctB (okC s (tN s) a b 2) (nGu s (tN s))))
theorem wC_e {s : Nat → Int32} (hR : RI s) {a b : Nat} (ha : a < cN s 0) (hb : b < cN s 0) : wC s a b = wstS s a b := by
  unfold wC wstS
  rw [br_mo hR ha hb, br_le hR ha hb, br_al hR ha hb]
  omega
theorem hq_J {s : Nat → Int32} (hR : RI s) {i : Nat} {p : Int32 × Int32} : ∀ k, i + k < cN s 0 → hqJ (wC s) i p k = hdJ s i p k
  | 0, _ => rfl
  | k + 1, h => by
    show hqT (wC s) i (i + 1 + k) (hqJ (wC s) i p k) = hdT s i (i + 1 + k) (hdJ s i p k)
    rw [hq_J hR k (by omega)]
    unfold hqT hdT
    rw [wC_e hR (by omega) (by omega)]
theorem hq_I {s : Nat → Int32} (hR : RI s) : ∀ i, i ≤ cN s 0 → hqI (wC s) (if 0 < ctN s then cN s 0 else 0) (if 0 < ctN s then i else 0) = hdI s i
  | 0, _ => by split <;> rfl
  | i + 1, h => by
    have ih := hq_I hR i (by omega)
    show _ = hdJ s i (hdI s i) (if 0 < ctN s then cN s 0 - (i + 1) else 0)
    rw [← ih]
    by_cases hc : 0 < ctN s
    · rw [if_pos hc, if_pos hc, if_pos hc, if_pos hc]
      exact hq_J hR _ (by omega)
    · rw [if_neg hc, if_neg hc, if_neg hc, if_neg hc]; rfl
theorem hq_in {W : Nat → Nat → Nat} {n : Nat} : ∀ i, i ≤ n → hqI W n i = (-5, -5) ∨ ∃ a b, a < b ∧ b < n ∧ hqI W n i = (nI (10 * a + b), nI (W a b))
  | 0, _ => Or.inl rfl
  | i + 1, h => by
    have hJ : ∀ (p : Int32 × Int32), (p = (-5, -5) ∨ ∃ a b, a < b ∧ b < n ∧ p = (nI (10 * a + b), nI (W a b))) → ∀ k, i + k < n → hqJ W i p k = (-5, -5) ∨ ∃ a b, a < b ∧ b < n ∧ hqJ W i p k = (nI (10 * a + b), nI (W a b)) := by
      intro p hp k
      induction k with
      | zero => intro _; exact hp
      | succ k ih =>
        intro hk
        show hqT W i (i + 1 + k) (hqJ W i p k) = _ ∨ ∃ a b, a < b ∧ b < n ∧ hqT W i (i + 1 + k) (hqJ W i p k) = _
        unfold hqT
        split
        · exact Or.inr ⟨i, i + 1 + k, by omega, by omega, rfl⟩
        · exact ih (by omega)
    exact hJ _ (hq_in i (by omega)) (n - (i + 1)) (by omega)
set_option maxHeartbeats 4000000 in
set_option maxRecDepth 100000 in
theorem m_Guesses_remaining {g : xG} {nx : Nat} {sh : Nat → Nat × Nat} {P : Nat → Nat → Option Nat} {I : Nat → Nat → Int32} (hx : xFx sh P) : xMet g Y_Guesses_remaining 0 0 0 [.ref 100] (nx, sh, P, I) (fun r σ => r = some (.int (I 100 4)) ∧ σ = (nx, sh, P, I)) := by
  refine xMet.of [some (.ref 100)] (by decide +kernel) (Nat.le_of_ble_eq_true rfl) rfl ?_
  refine x_aload_n dX3_remaining_0 rfl ?_
  refine y_geti dX3_remaining_1 F_Guesses_27 (fxo_100 hx) rfl rfl ?_
  refine x_ireturn dX3_remaining_4 rfl nb_int ?_
  exact ⟨rfl, rfl⟩

set_option maxHeartbeats 4000000 in
set_option maxRecDepth 100000 in
theorem m_C_left {g : xG} {nx : Nat} {sh : Nat → Nat × Nat} {P : Nat → Nat → Option Nat} {I : Nat → Nat → Int32} (hx : xFx sh P) {s : Nat → Int32} (hW : xWN nx sh P I s) (hR : RI s)  : xMet g Y_C_left 6 0 0 [.ref 64] (nx, sh, P, I) (fun r σ => ∃ I1 : Nat → Nat → Int32, r = some (.int (nI (ctN s))) ∧ σ = (nx, sh, P, I1) ∧ xFrm [80, 100, 102, 103, 104, 105, 106, 107, 108] I I1) := by
  refine xMet.of [some (.ref 64)] (by decide +kernel) (Nat.le_of_ble_eq_true rfl) rfl ?_
  obtain ⟨⟨tTape, tCoins, tWares, tBuys, tSlates, tPlans, tBooked⟩, ⟨cTape, cCoins, cWares, cBuys, cSlates, cPlans, cBooked⟩, hW7, hW9, hL⟩ := id hW
  obtain ⟨⟨n0, b0, e0⟩, ⟨n1, b1, e1⟩, ⟨n2, b2, e2⟩, ⟨n3, b3, e3⟩, ⟨n4, b4, e4⟩, ⟨n5, b5, e5⟩, ⟨n6, b6, e6⟩, ⟨n7, b7, e7⟩, ⟨n9, b9, e9⟩⟩ := hR.k
  have k7 : cN s 7 = n7 := cN_of e7 (by omega)
  rw [k7] at tTape cTape
  have k0 : cN s 0 = n0 := cN_of e0 (by omega)
  rw [k0] at tCoins cCoins
  have k1 : cN s 1 = n1 := cN_of e1 (by omega)
  rw [k1] at tWares cWares
  have k3 : cN s 3 = n3 := cN_of e3 (by omega)
  rw [k3] at tBuys cBuys
  have k4 : cN s 4 = n4 := cN_of e4 (by omega)
  rw [k4] at tSlates cSlates
  have k5 : cN s 5 = n5 := cN_of e5 (by omega)
  rw [k5] at tPlans cPlans
  have k6 : cN s 6 = n6 := cN_of e6 (by omega)
  rw [k6] at tBooked cBooked
  obtain ⟨ht1, ht9, htN⟩ := tN_bd hR
  refine x_aload_n dX10_left_0 rfl ?_
  refine y_getr dX10_left_1 F_C_43 (fxo_64 hx) rfl (fxp_64_4 hx) ?_
  refine x_callV (k2 := 0) (n2 := 0) dX10_left_4 LV_C_150 (m_Guesses_survey hx hW hR htN ht1 ht9) rfl rfl (fxo_100 hx) rfl (Nat.le_of_ble_eq_true rfl) (Nat.le_of_ble_eq_true rfl) (Nat.le_of_ble_eq_true rfl) (Nat.le_of_ble_eq_true rfl) ?_
  rintro _ _ ⟨I1, rfl, rfl, hF, hv⟩
  have hN9 := nGu_le (s := s) ht1 ht9
  have hctN := ctN_bd hR
  have hvl : I1 100 4 = nI (ctN s) := by rw [hv.1, br_left hR]
  refine x_aload_n dX10_left_7 rfl ?_
  refine y_getr dX10_left_8 F_C_43 (fxo_64 hx) rfl (fxp_64_4 hx) ?_
  refine x_callV (k2 := 0) (n2 := 0) dX10_left_11 LV_C_153 (m_Guesses_remaining hx) rfl rfl (fxo_100 hx) rfl (Nat.le_of_ble_eq_true rfl) (Nat.le_of_ble_eq_true rfl) (Nat.le_of_ble_eq_true rfl) (Nat.le_of_ble_eq_true rfl) ?_
  rintro _ _ ⟨rfl, rfl⟩
  rw [hvl]
  refine x_ireturn dX10_left_14 rfl nb_int ?_
  exact ⟨I1, rfl, rfl, hF⟩

set_option maxHeartbeats 4000000 in
set_option maxRecDepth 100000 in
theorem m_C_range {g : xG} {nx : Nat} {sh : Nat → Nat × Nat} {P : Nat → Nat → Option Nat} {I : Nat → Nat → Int32} (hx : xFx sh P) {s : Nat → Int32} (hW : xWN nx sh P I s) (hR : RI s) {c w : Int32} : xMet g Y_C_range 6 0 0 [.ref 64, .int c, .int w] (nx, sh, P, I) (fun r σ => ∃ I1 : Nat → Nat → Int32, r = some (.int (a_range s c w)) ∧ σ = (nx, sh, P, I1) ∧ xFrm [80, 100, 102, 103, 104, 105, 106, 107, 108] I I1) := by
  refine xMet.of [some (.ref 64), some (.int c), some (.int w)] (by decide +kernel) (Nat.le_of_ble_eq_true rfl) rfl ?_
  obtain ⟨⟨tTape, tCoins, tWares, tBuys, tSlates, tPlans, tBooked⟩, ⟨cTape, cCoins, cWares, cBuys, cSlates, cPlans, cBooked⟩, hW7, hW9, hL⟩ := id hW
  obtain ⟨⟨n0, b0, e0⟩, ⟨n1, b1, e1⟩, ⟨n2, b2, e2⟩, ⟨n3, b3, e3⟩, ⟨n4, b4, e4⟩, ⟨n5, b5, e5⟩, ⟨n6, b6, e6⟩, ⟨n7, b7, e7⟩, ⟨n9, b9, e9⟩⟩ := hR.k
  have k7 : cN s 7 = n7 := cN_of e7 (by omega)
  rw [k7] at tTape cTape
  have k0 : cN s 0 = n0 := cN_of e0 (by omega)
  rw [k0] at tCoins cCoins
  have k1 : cN s 1 = n1 := cN_of e1 (by omega)
  rw [k1] at tWares cWares
  have k3 : cN s 3 = n3 := cN_of e3 (by omega)
  rw [k3] at tBuys cBuys
  have k4 : cN s 4 = n4 := cN_of e4 (by omega)
  rw [k4] at tSlates cSlates
  have k5 : cN s 5 = n5 := cN_of e5 (by omega)
  rw [k5] at tPlans cPlans
  have k6 : cN s 6 = n6 := cN_of e6 (by omega)
  rw [k6] at tBooked cBooked
  obtain ⟨ht1, ht9, htN⟩ := tN_bd hR
  refine x_aload_n dX10_range_0 rfl ?_
  refine y_getr dX10_range_1 F_C_12 (fxo_64 hx) rfl (fxp_64_0 hx) ?_
  refine y_getr dX10_range_4 F_C_110 (fxo_65 hx) rfl (fxp_65_1 hx) ?_
  refine x_iload_n dX10_range_7 rfl ?_
  refine x_callV (k2 := 0) (n2 := 0) dX10_range_8 LV_C_113 (m_Table_has tCoins) rfl rfl (fxo_68 hx) rfl (Nat.le_of_ble_eq_true rfl) (Nat.le_of_ble_eq_true rfl) (Nat.le_of_ble_eq_true rfl) (Nat.le_of_ble_eq_true rfl) ?_
  rintro _ _ ⟨rfl, rfl⟩
  refine x_if_eq (tgt := 23) dX10_range_11 rfl (fun c11 => ?_) (fun c11 => ?_)
  · refine x_iconst (v := (-1)) dX10_range_23 (by decide) ?_
    refine x_ireturn dX10_range_24 rfl nb_int ?_
    have hno : ¬ ((0 ≤ c ∧ c < s 0) ∧ 0 ≤ w ∧ w ≤ 1) := by
      rw [e0]
      first
      | (have h9 := b_f c11; exact fun y => h9 y.1)
      | (have h9 := o_f c20; exact fun y => h9 y.2)
    exact ⟨I, by unfold a_range; rw [if_neg hno], rfl, xFrm.rf⟩
  · refine x_iload_n dX10_range_14 rfl ?_
    refine x_iconst (v := 0) dX10_range_15 (by decide) ?_
    refine x_iconst (v := 1) dX10_range_16 (by decide) ?_
    refine x_callS (k2 := 0) (n2 := 0) dX10_range_17 LS_C_71 m_C_isOutside rfl rfl (Nat.le_of_ble_eq_true rfl) (Nat.le_of_ble_eq_true rfl) (Nat.le_of_ble_eq_true rfl) (Nat.le_of_ble_eq_true rfl) ?_
    rintro _ _ ⟨rfl, rfl⟩
    refine x_if_eq (tgt := 25) dX10_range_20 rfl (fun c20 => ?_) (fun c20 => ?_)
    · obtain ⟨q, hq, rfl⟩ := i_2 (n := n0) (by omega) (b_t c11)
      have hqc : q < cN s 0 := by rw [k0]; exact hq
      refine x_aload_n dX10_range_25 rfl ?_
      refine y_getr dX10_range_26 F_C_43 (fxo_64 hx) rfl (fxp_64_4 hx) ?_
      refine x_callV (k2 := 0) (n2 := 0) dX10_range_29 LV_C_150 (m_Guesses_survey hx hW hR htN ht1 ht9) rfl rfl (fxo_100 hx) rfl (Nat.le_of_ble_eq_true rfl) (Nat.le_of_ble_eq_true rfl) (Nat.le_of_ble_eq_true rfl) (Nat.le_of_ble_eq_true rfl) ?_
      rintro _ _ ⟨I1, rfl, rfl, hF, hv⟩
      have hN9 := nGu_le (s := s) ht1 ht9
      have hctN := ctN_bd hR
      have hvl : I1 100 4 = nI (ctN s) := by rw [hv.1, br_left hR]
      refine x_iload_n dX10_range_32 rfl ?_
      refine x_if_ne (tgt := 47) dX10_range_33 rfl (fun c33 => ?_) (fun c33 => ?_)
      · skip
        refine x_aload_n dX10_range_47 rfl ?_
        refine y_getr dX10_range_48 F_C_43 (fxo_64 hx) rfl (fxp_64_4 hx) ?_
        refine x_iload_n dX10_range_51 rfl ?_
        refine x_callV (k2 := 0) (n2 := 0) dX10_range_52 LV_C_159 (m_Guesses_highest (I := I1) hx (c := q) (f := ctW s q) (by omega) (fun w hw1 hw9 => by rw [hv.2.1 _ w (by omega) hw9, br_W hR (by omega)]) (fun w => by have := ctW_bd hR (c := q) (w := w); omega)) rfl rfl (fxo_100 hx) rfl (Nat.le_of_ble_eq_true rfl) (Nat.le_of_ble_eq_true rfl) (Nat.le_of_ble_eq_true rfl) (Nat.le_of_ble_eq_true rfl) ?_
        rintro _ _ ⟨rfl, rfl⟩
        refine x_ireturn dX10_range_55 rfl nb_int ?_
        exact ⟨I1, by unfold a_range; rw [if_pos ⟨(show 0 ≤ nI q ∧ nI q < s 0 from by rw [e0]; exact b_t c11), o_t c20⟩, if_neg c33, nI_clamp (by omega)], rfl, hF⟩
      · skip
        refine x_aload_n dX10_range_36 rfl ?_
        refine y_getr dX10_range_37 F_C_43 (fxo_64 hx) rfl (fxp_64_4 hx) ?_
        refine x_iload_n dX10_range_40 rfl ?_
        refine x_callV (k2 := 0) (n2 := 0) dX10_range_41 LV_C_156 (m_Guesses_lowest (I := I1) hx (c := q) (f := ctW s q) (by omega) (fun w hw1 hw9 => by rw [hv.2.1 _ w (by omega) hw9, br_W hR (by omega)]) (fun w => by have := ctW_bd hR (c := q) (w := w); omega)) rfl rfl (fxo_100 hx) rfl (Nat.le_of_ble_eq_true rfl) (Nat.le_of_ble_eq_true rfl) (Nat.le_of_ble_eq_true rfl) (Nat.le_of_ble_eq_true rfl) ?_
        rintro _ _ ⟨rfl, rfl⟩
        refine x_goto (tgt := 55) dX10_range_44 rfl ?_
        refine x_ireturn dX10_range_55 rfl nb_int ?_
        exact ⟨I1, by unfold a_range; rw [if_pos ⟨(show 0 ≤ nI q ∧ nI q < s 0 from by rw [e0]; exact b_t c11), o_t c20⟩, if_pos c33, nI_clamp (by omega)], rfl, hF⟩
    · refine x_iconst (v := (-1)) dX10_range_23 (by decide) ?_
      refine x_ireturn dX10_range_24 rfl nb_int ?_
      have hno : ¬ ((0 ≤ c ∧ c < s 0) ∧ 0 ≤ w ∧ w ≤ 1) := by
        rw [e0]
        first
        | (have h9 := b_f c11; exact fun y => h9 y.1)
        | (have h9 := o_f c20; exact fun y => h9 y.2)
      exact ⟨I, by unfold a_range; rw [if_neg hno], rfl, xFrm.rf⟩

set_option maxHeartbeats 4000000 in
set_option maxRecDepth 100000 in
theorem m_C_known {g : xG} {nx : Nat} {sh : Nat → Nat × Nat} {P : Nat → Nat → Option Nat} {I : Nat → Nat → Int32} (hx : xFx sh P) {s : Nat → Int32} (hW : xWN nx sh P I s) (hR : RI s)  : xMet g Y_C_known 6 0 0 [.ref 64] (nx, sh, P, I) (fun r σ => ∃ I1 : Nat → Nat → Int32, r = some (.int (knS s (cN s 0))) ∧ σ = (nx, sh, P, I1) ∧ xFrm [80, 100, 102, 103, 104, 105, 106, 107, 108] I I1) := by
  refine xMet.of [some (.ref 64), none, none, none] (by decide +kernel) (Nat.le_of_ble_eq_true rfl) rfl ?_
  obtain ⟨⟨tTape, tCoins, tWares, tBuys, tSlates, tPlans, tBooked⟩, ⟨cTape, cCoins, cWares, cBuys, cSlates, cPlans, cBooked⟩, hW7, hW9, hL⟩ := id hW
  obtain ⟨⟨n0, b0, e0⟩, ⟨n1, b1, e1⟩, ⟨n2, b2, e2⟩, ⟨n3, b3, e3⟩, ⟨n4, b4, e4⟩, ⟨n5, b5, e5⟩, ⟨n6, b6, e6⟩, ⟨n7, b7, e7⟩, ⟨n9, b9, e9⟩⟩ := hR.k
  have k7 : cN s 7 = n7 := cN_of e7 (by omega)
  rw [k7] at tTape cTape
  have k0 : cN s 0 = n0 := cN_of e0 (by omega)
  rw [k0] at tCoins cCoins
  have k1 : cN s 1 = n1 := cN_of e1 (by omega)
  rw [k1] at tWares cWares
  have k3 : cN s 3 = n3 := cN_of e3 (by omega)
  rw [k3] at tBuys cBuys
  have k4 : cN s 4 = n4 := cN_of e4 (by omega)
  rw [k4] at tSlates cSlates
  have k5 : cN s 5 = n5 := cN_of e5 (by omega)
  rw [k5] at tPlans cPlans
  have k6 : cN s 6 = n6 := cN_of e6 (by omega)
  rw [k6] at tBooked cBooked
  obtain ⟨ht1, ht9, htN⟩ := tN_bd hR
  refine x_aload_n dX10_known_0 rfl ?_
  refine y_getr dX10_known_1 F_C_43 (fxo_64 hx) rfl (fxp_64_4 hx) ?_
  refine x_callV (k2 := 0) (n2 := 0) dX10_known_4 LV_C_150 (m_Guesses_survey hx hW hR htN ht1 ht9) rfl rfl (fxo_100 hx) rfl (Nat.le_of_ble_eq_true rfl) (Nat.le_of_ble_eq_true rfl) (Nat.le_of_ble_eq_true rfl) (Nat.le_of_ble_eq_true rfl) ?_
  rintro _ _ ⟨I1, rfl, rfl, hF, hv⟩
  have hN9 := nGu_le (s := s) ht1 ht9
  have hctN := ctN_bd hR
  have hvl : I1 100 4 = nI (ctN s) := by rw [hv.1, br_left hR]
  refine x_iconst (v := 0) dX10_known_7 (by decide) ?_
  refine x_istore_n dX10_known_8 (Nat.le_of_ble_eq_true rfl) ?_
  try simp only [xst, xst2, xclr, xset, xwide]
  refine x_iconst (v := 0) dX10_known_9 (by decide) ?_
  refine x_istore_n dX10_known_10 (Nat.le_of_ble_eq_true rfl) ?_
  try simp only [xst, xst2, xclr, xset, xwide]
  have K11 : ∀ (fuel : Nat) (i : Nat) (v3 : Option Value) (hi : i ≤ n0), n0 - i < fuel → xX g Y_C_known 6 0 0 (fun r σ => ∃ I1 : Nat → Nat → Int32, r = some (.int (knS s (cN s 0))) ∧ σ = (nx, sh, P, I1) ∧ xFrm [80, 100, 102, 103, 104, 105, 106, 107, 108] I I1) 11 [some (.ref 64), some (.int (knS s i)), some (.int (nI i)), v3] [] (nx, sh, P, I1) := by
    intro fuel
    induction fuel with
    | zero => intro i v3 hi hm; exact absurd hm (Nat.not_lt_zero _)
    | succ fuel ih11 =>
      intro i v3 hi hm
      refine x_iload_n dX10_known_11 rfl ?_
      refine x_aload_n dX10_known_12 rfl ?_
      refine y_getr dX10_known_13 F_C_12 (fxo_64 hx) rfl (fxp_64_0 hx) ?_
      refine y_getr dX10_known_16 F_C_110 (fxo_65 hx) rfl (fxp_65_1 hx) ?_
      refine x_callV (k2 := 0) (n2 := 0) dX10_known_19 LV_C_89 (m_Table_rows (tCoins.other (hF 68 (by decide)))) rfl rfl (fxo_68 hx) rfl (Nat.le_of_ble_eq_true rfl) (Nat.le_of_ble_eq_true rfl) (Nat.le_of_ble_eq_true rfl) (Nat.le_of_ble_eq_true rfl) ?_
      rintro _ _ ⟨rfl, rfl⟩
      refine x_icmp_ge (tgt := 64) dX10_known_22 rfl (fun c22 => ?_) (fun c22 => ?_)
      · have hie : i = n0 := cge_t (by omega) hi c22
        refine x_iload_n dX10_known_64 rfl ?_
        refine x_ireturn dX10_known_65 rfl nb_int ?_
        exact ⟨I1, by rw [hie, k0], rfl, hF⟩
      · have him : i < n0 := cge_f (by omega) hi c22
        refine x_aload_n dX10_known_25 rfl ?_
        refine y_getr dX10_known_26 F_C_43 (fxo_64 hx) rfl (fxp_64_4 hx) ?_
        refine x_iload_n dX10_known_29 rfl ?_
        refine x_callV (k2 := 0) (n2 := 0) dX10_known_30 LV_C_156 (m_Guesses_lowest (I := I1) hx (c := i) (f := ctW s i) (by omega) (fun w hw1 hw9 => by rw [hv.2.1 _ w (by omega) hw9, br_W hR (by omega)]) (fun w => by have := ctW_bd hR (c := i) (w := w); omega)) rfl rfl (fxo_100 hx) rfl (Nat.le_of_ble_eq_true rfl) (Nat.le_of_ble_eq_true rfl) (Nat.le_of_ble_eq_true rfl) (Nat.le_of_ble_eq_true rfl) ?_
        rintro _ _ ⟨rfl, rfl⟩
        refine x_istore_n dX10_known_33 (Nat.le_of_ble_eq_true rfl) ?_
        try simp only [xst, xst2, xclr, xset, xwide]
        refine x_iload_n dX10_known_34 rfl ?_
        refine x_bipush (v := (-5)) dX10_known_35 (by decide) ?_
        refine x_icmp_eq (tgt := 58) dX10_known_37 rfl (fun c37 => ?_) (fun c37 => ?_)
        · skip
          refine x_iinc (v := (nI (i + 1))) dX10_known_58 rfl (nI_1 _) (Nat.le_of_ble_eq_true rfl) ?_
          try simp only [xst, xst2, xclr, xset, xwide]
          refine x_goto (tgt := 11) dX10_known_61 rfl ?_
          rw [show knS s i = knS s (i + 1) from by show knS s i = knS s i ||| (if 0 < ctN s ∧ loS (ctW s i) 9 1 = hiS (ctW s i) 9 then 1 <<< (nI i &&& 31) else 0); rw [if_neg (fun y => by have := (lo_ct hR (c := i)).mp c37; omega), Int32.or_zero]]
          exact ih11 (i + 1) _ (by omega) (by omega)
        · refine x_iload_n dX10_known_40 rfl ?_
          refine x_aload_n dX10_known_41 rfl ?_
          refine y_getr dX10_known_42 F_C_43 (fxo_64 hx) rfl (fxp_64_4 hx) ?_
          refine x_iload_n dX10_known_45 rfl ?_
          refine x_callV (k2 := 0) (n2 := 0) dX10_known_46 LV_C_159 (m_Guesses_highest (I := I1) hx (c := i) (f := ctW s i) (by omega) (fun w hw1 hw9 => by rw [hv.2.1 _ w (by omega) hw9, br_W hR (by omega)]) (fun w => by have := ctW_bd hR (c := i) (w := w); omega)) rfl rfl (fxo_100 hx) rfl (Nat.le_of_ble_eq_true rfl) (Nat.le_of_ble_eq_true rfl) (Nat.le_of_ble_eq_true rfl) (Nat.le_of_ble_eq_true rfl) ?_
          rintro _ _ ⟨rfl, rfl⟩
          refine x_icmp_ne (tgt := 58) dX10_known_49 rfl (fun c49 => ?_) (fun c49 => ?_)
          · skip
            refine x_iinc (v := (nI (i + 1))) dX10_known_58 rfl (nI_1 _) (Nat.le_of_ble_eq_true rfl) ?_
            try simp only [xst, xst2, xclr, xset, xwide]
            refine x_goto (tgt := 11) dX10_known_61 rfl ?_
            rw [show knS s i = knS s (i + 1) from by show knS s i = knS s i ||| (if 0 < ctN s ∧ loS (ctW s i) 9 1 = hiS (ctW s i) 9 then 1 <<< (nI i &&& 31) else 0); rw [if_neg (fun y => c49 y.2), Int32.or_zero]]
            exact ih11 (i + 1) _ (by omega) (by omega)
          · skip
            refine x_iload_n dX10_known_52 rfl ?_
            refine x_iconst (v := 1) dX10_known_53 (by decide) ?_
            refine x_iload_n dX10_known_54 rfl ?_
            refine x_ishl dX10_known_55 ?_
            refine x_ior dX10_known_56 ?_
            refine x_istore_n dX10_known_57 (Nat.le_of_ble_eq_true rfl) ?_
            try simp only [xst, xst2, xclr, xset, xwide]
            refine x_iinc (v := (nI (i + 1))) dX10_known_58 rfl (nI_1 _) (Nat.le_of_ble_eq_true rfl) ?_
            try simp only [xst, xst2, xclr, xset, xwide]
            refine x_goto (tgt := 11) dX10_known_61 rfl ?_
            rw [show knS s i ||| 1 <<< (nI i &&& 31) = knS s (i + 1) from by show _ = knS s i ||| (if 0 < ctN s ∧ loS (ctW s i) 9 1 = hiS (ctW s i) 9 then 1 <<< (nI i &&& 31) else 0); rw [if_pos ⟨Nat.pos_of_ne_zero (fun z => c37 ((lo_ct hR (c := i)).mpr z)), c49⟩]]
            exact ih11 (i + 1) _ (by omega) (by omega)
  exact K11 _ 0 none (Nat.zero_le _) (Nat.lt_succ_self _)

set_option maxHeartbeats 4000000 in
set_option maxRecDepth 100000 in
theorem m_C_likely {g : xG} {nx : Nat} {sh : Nat → Nat × Nat} {P : Nat → Nat → Option Nat} {I : Nat → Nat → Int32} (hx : xFx sh P) {s : Nat → Int32} (hW : xWN nx sh P I s) (hR : RI s) {c w part : Int32} : xMet g Y_C_likely 6 0 0 [.ref 64, .int c, .int w, .int part] (nx, sh, P, I) (fun r σ => ∃ I1 : Nat → Nat → Int32, r = some (.long (a_likely s c w part)) ∧ σ = (nx, sh, P, I1) ∧ xFrm [80, 100, 102, 103, 104, 105, 106, 107, 108] I I1) := by
  refine xMet.of [some (.ref 64), some (.int c), some (.int w), some (.int part)] (by decide +kernel) (Nat.le_of_ble_eq_true rfl) rfl ?_
  obtain ⟨⟨tTape, tCoins, tWares, tBuys, tSlates, tPlans, tBooked⟩, ⟨cTape, cCoins, cWares, cBuys, cSlates, cPlans, cBooked⟩, hW7, hW9, hL⟩ := id hW
  obtain ⟨⟨n0, b0, e0⟩, ⟨n1, b1, e1⟩, ⟨n2, b2, e2⟩, ⟨n3, b3, e3⟩, ⟨n4, b4, e4⟩, ⟨n5, b5, e5⟩, ⟨n6, b6, e6⟩, ⟨n7, b7, e7⟩, ⟨n9, b9, e9⟩⟩ := hR.k
  have k7 : cN s 7 = n7 := cN_of e7 (by omega)
  rw [k7] at tTape cTape
  have k0 : cN s 0 = n0 := cN_of e0 (by omega)
  rw [k0] at tCoins cCoins
  have k1 : cN s 1 = n1 := cN_of e1 (by omega)
  rw [k1] at tWares cWares
  have k3 : cN s 3 = n3 := cN_of e3 (by omega)
  rw [k3] at tBuys cBuys
  have k4 : cN s 4 = n4 := cN_of e4 (by omega)
  rw [k4] at tSlates cSlates
  have k5 : cN s 5 = n5 := cN_of e5 (by omega)
  rw [k5] at tPlans cPlans
  have k6 : cN s 6 = n6 := cN_of e6 (by omega)
  rw [k6] at tBooked cBooked
  obtain ⟨ht1, ht9, htN⟩ := tN_bd hR
  refine x_aload_n dX10_likely_0 rfl ?_
  refine y_getr dX10_likely_1 F_C_12 (fxo_64 hx) rfl (fxp_64_0 hx) ?_
  refine y_getr dX10_likely_4 F_C_110 (fxo_65 hx) rfl (fxp_65_1 hx) ?_
  refine x_iload_n dX10_likely_7 rfl ?_
  refine x_callV (k2 := 0) (n2 := 0) dX10_likely_8 LV_C_113 (m_Table_has tCoins) rfl rfl (fxo_68 hx) rfl (Nat.le_of_ble_eq_true rfl) (Nat.le_of_ble_eq_true rfl) (Nat.le_of_ble_eq_true rfl) (Nat.le_of_ble_eq_true rfl) ?_
  rintro _ _ ⟨rfl, rfl⟩
  refine x_if_eq (tgt := 33) dX10_likely_11 rfl (fun c11 => ?_) (fun c11 => ?_)
  · refine x_ldc2 dX10_likely_33 K_C_162 ?_
    refine x_lreturn dX10_likely_36 rfl ?_
    have hno : ¬ ((0 ≤ c ∧ c < s 0) ∧ (1 ≤ w ∧ w ≤ 9) ∧ 0 ≤ part ∧ part ≤ 1) := by
      rw [e0]
      first
      | (have h9 := b_f c11; exact fun y => h9 y.1)
      | (have h9 := o_f c21; exact fun y => h9 y.2.1)
      | (have h9 := o_f c30; exact fun y => h9 y.2.2)
    exact ⟨I, by unfold a_likely; rw [if_neg hno], rfl, xFrm.rf⟩
  · refine x_iload_n dX10_likely_14 rfl ?_
    refine x_iconst (v := 1) dX10_likely_15 (by decide) ?_
    refine x_bipush (v := 9) dX10_likely_16 (by decide) ?_
    refine x_callS (k2 := 0) (n2 := 0) dX10_likely_18 LS_C_71 m_C_isOutside rfl rfl (Nat.le_of_ble_eq_true rfl) (Nat.le_of_ble_eq_true rfl) (Nat.le_of_ble_eq_true rfl) (Nat.le_of_ble_eq_true rfl) ?_
    rintro _ _ ⟨rfl, rfl⟩
    refine x_if_ne (tgt := 33) dX10_likely_21 rfl (fun c21 => ?_) (fun c21 => ?_)
    · refine x_ldc2 dX10_likely_33 K_C_162 ?_
      refine x_lreturn dX10_likely_36 rfl ?_
      have hno : ¬ ((0 ≤ c ∧ c < s 0) ∧ (1 ≤ w ∧ w ≤ 9) ∧ 0 ≤ part ∧ part ≤ 1) := by
        rw [e0]
        first
        | (have h9 := b_f c11; exact fun y => h9 y.1)
        | (have h9 := o_f c21; exact fun y => h9 y.2.1)
        | (have h9 := o_f c30; exact fun y => h9 y.2.2)
      exact ⟨I, by unfold a_likely; rw [if_neg hno], rfl, xFrm.rf⟩
    · refine x_iload_n dX10_likely_24 rfl ?_
      refine x_iconst (v := 0) dX10_likely_25 (by decide) ?_
      refine x_iconst (v := 1) dX10_likely_26 (by decide) ?_
      refine x_callS (k2 := 0) (n2 := 0) dX10_likely_27 LS_C_71 m_C_isOutside rfl rfl (Nat.le_of_ble_eq_true rfl) (Nat.le_of_ble_eq_true rfl) (Nat.le_of_ble_eq_true rfl) (Nat.le_of_ble_eq_true rfl) ?_
      rintro _ _ ⟨rfl, rfl⟩
      refine x_if_eq (tgt := 37) dX10_likely_30 rfl (fun c30 => ?_) (fun c30 => ?_)
      · obtain ⟨q, hq, rfl⟩ := i_2 (n := n0) (by omega) (b_t c11)
        have hqc : q < cN s 0 := by rw [k0]; exact hq
        obtain ⟨ww, hw1, hw9, hww⟩ := i_btw (x := w) (a := 1) (b := 9) (by decide) (o_t c21)
        subst hww
        refine x_aload_n dX10_likely_37 rfl ?_
        refine y_getr dX10_likely_38 F_C_43 (fxo_64 hx) rfl (fxp_64_4 hx) ?_
        refine x_callV (k2 := 0) (n2 := 0) dX10_likely_41 LV_C_150 (m_Guesses_survey hx hW hR htN ht1 ht9) rfl rfl (fxo_100 hx) rfl (Nat.le_of_ble_eq_true rfl) (Nat.le_of_ble_eq_true rfl) (Nat.le_of_ble_eq_true rfl) (Nat.le_of_ble_eq_true rfl) ?_
        rintro _ _ ⟨I1, rfl, rfl, hF, hv⟩
        have hN9 := nGu_le (s := s) ht1 ht9
        have hctN := ctN_bd hR
        have hvl : I1 100 4 = nI (ctN s) := by rw [hv.1, br_left hR]
        refine x_aload_n dX10_likely_44 rfl ?_
        refine y_getr dX10_likely_45 F_C_43 (fxo_64 hx) rfl (fxp_64_4 hx) ?_
        refine x_iload_n dX10_likely_48 rfl ?_
        refine x_iload_n dX10_likely_49 rfl ?_
        refine x_callV (k2 := 0) (n2 := 0) dX10_likely_50 LV_C_164 (m_Guesses_having (I := I1) hx (c := q) (w := ww) (by omega) (by omega)) rfl rfl (fxo_100 hx) rfl (Nat.le_of_ble_eq_true rfl) (Nat.le_of_ble_eq_true rfl) (Nat.le_of_ble_eq_true rfl) (Nat.le_of_ble_eq_true rfl) ?_
        rintro _ _ ⟨rfl, rfl⟩
        rw [hv.2.1 q ww (by omega) (by omega), br_W hR hqc]
        have hcw := ctW_bd hR (c := q) (w := ww)
        refine x_aload_n dX10_likely_53 rfl ?_
        refine y_getr dX10_likely_54 F_C_43 (fxo_64 hx) rfl (fxp_64_4 hx) ?_
        refine x_callV (k2 := 0) (n2 := 0) dX10_likely_57 LV_C_153 (m_Guesses_remaining hx) rfl rfl (fxo_100 hx) rfl (Nat.le_of_ble_eq_true rfl) (Nat.le_of_ble_eq_true rfl) (Nat.le_of_ble_eq_true rfl) (Nat.le_of_ble_eq_true rfl) ?_
        rintro _ _ ⟨rfl, rfl⟩
        rw [hvl]
        refine x_iload_n dX10_likely_60 rfl ?_
        refine x_callS (k2 := 0) (n2 := 0) dX10_likely_61 LS_C_167 (m_C_fraction (u := ctW s q ww) (l := ctN s) (by omega) (by omega)) rfl rfl (Nat.le_of_ble_eq_true rfl) (Nat.le_of_ble_eq_true rfl) (Nat.le_of_ble_eq_true rfl) (Nat.le_of_ble_eq_true rfl) ?_
        rintro _ _ ⟨rfl, rfl⟩
        refine x_lreturn dX10_likely_64 rfl ?_
        have hyes : (0 ≤ nI q ∧ nI q < s 0) ∧ (1 ≤ nI ww ∧ nI ww ≤ 9) ∧ 0 ≤ part ∧ part ≤ 1 := ⟨(show 0 ≤ nI q ∧ nI q < s 0 from by rw [e0]; exact b_t c11), o_t c21, o_t c30⟩
        exact ⟨I1, by unfold a_likely; rw [if_pos hyes, nI_clamp (by omega), nI_clamp (by omega)], rfl, hF⟩
      · refine x_ldc2 dX10_likely_33 K_C_162 ?_
        refine x_lreturn dX10_likely_36 rfl ?_
        have hno : ¬ ((0 ≤ c ∧ c < s 0) ∧ (1 ≤ w ∧ w ≤ 9) ∧ 0 ≤ part ∧ part ≤ 1) := by
          rw [e0]
          first
          | (have h9 := b_f c11; exact fun y => h9 y.1)
          | (have h9 := o_f c21; exact fun y => h9 y.2.1)
          | (have h9 := o_f c30; exact fun y => h9 y.2.2)
        exact ⟨I, by unfold a_likely; rw [if_neg hno], rfl, xFrm.rf⟩

set_option maxHeartbeats 4000000 in
set_option maxRecDepth 100000 in
theorem m_C_alike {g : xG} {nx : Nat} {sh : Nat → Nat × Nat} {P : Nat → Nat → Option Nat} {I : Nat → Nat → Int32} (hx : xFx sh P) {s : Nat → Int32} (hW : xWN nx sh P I s) (hR : RI s) {a b : Int32} : xMet g Y_C_alike 6 0 0 [.ref 64, .int a, .int b] (nx, sh, P, I) (fun r σ => ∃ I1 : Nat → Nat → Int32, r = some (.int (a_alike s a b)) ∧ σ = (nx, sh, P, I1) ∧ xFrm [80, 100, 102, 103, 104, 105, 106, 107, 108] I I1) := by
  refine xMet.of [some (.ref 64), some (.int a), some (.int b)] (by decide +kernel) (Nat.le_of_ble_eq_true rfl) rfl ?_
  obtain ⟨⟨tTape, tCoins, tWares, tBuys, tSlates, tPlans, tBooked⟩, ⟨cTape, cCoins, cWares, cBuys, cSlates, cPlans, cBooked⟩, hW7, hW9, hL⟩ := id hW
  obtain ⟨⟨n0, b0, e0⟩, ⟨n1, b1, e1⟩, ⟨n2, b2, e2⟩, ⟨n3, b3, e3⟩, ⟨n4, b4, e4⟩, ⟨n5, b5, e5⟩, ⟨n6, b6, e6⟩, ⟨n7, b7, e7⟩, ⟨n9, b9, e9⟩⟩ := hR.k
  have k7 : cN s 7 = n7 := cN_of e7 (by omega)
  rw [k7] at tTape cTape
  have k0 : cN s 0 = n0 := cN_of e0 (by omega)
  rw [k0] at tCoins cCoins
  have k1 : cN s 1 = n1 := cN_of e1 (by omega)
  rw [k1] at tWares cWares
  have k3 : cN s 3 = n3 := cN_of e3 (by omega)
  rw [k3] at tBuys cBuys
  have k4 : cN s 4 = n4 := cN_of e4 (by omega)
  rw [k4] at tSlates cSlates
  have k5 : cN s 5 = n5 := cN_of e5 (by omega)
  rw [k5] at tPlans cPlans
  have k6 : cN s 6 = n6 := cN_of e6 (by omega)
  rw [k6] at tBooked cBooked
  obtain ⟨ht1, ht9, htN⟩ := tN_bd hR
  refine x_aload_n dX10_alike_0 rfl ?_
  refine y_getr dX10_alike_1 F_C_12 (fxo_64 hx) rfl (fxp_64_0 hx) ?_
  refine y_getr dX10_alike_4 F_C_110 (fxo_65 hx) rfl (fxp_65_1 hx) ?_
  refine x_iload_n dX10_alike_7 rfl ?_
  refine x_callV (k2 := 0) (n2 := 0) dX10_alike_8 LV_C_113 (m_Table_has tCoins) rfl rfl (fxo_68 hx) rfl (Nat.le_of_ble_eq_true rfl) (Nat.le_of_ble_eq_true rfl) (Nat.le_of_ble_eq_true rfl) (Nat.le_of_ble_eq_true rfl) ?_
  rintro _ _ ⟨rfl, rfl⟩
  refine x_if_eq (tgt := 28) dX10_alike_11 rfl (fun c11 => ?_) (fun c11 => ?_)
  · refine x_iconst (v := (-1)) dX10_alike_28 (by decide) ?_
    refine x_ireturn dX10_alike_29 rfl nb_int ?_
    have hno : ¬ ((0 ≤ a ∧ a < s 0) ∧ 0 ≤ b ∧ b < s 0) := by
      rw [e0]
      first
      | (have h9 := b_f c11; exact fun y => h9 y.1)
      | (have h9 := b_f c25; exact fun y => h9 y.2)
    exact ⟨I, by unfold a_alike; rw [if_neg hno], rfl, xFrm.rf⟩
  · refine x_aload_n dX10_alike_14 rfl ?_
    refine y_getr dX10_alike_15 F_C_12 (fxo_64 hx) rfl (fxp_64_0 hx) ?_
    refine y_getr dX10_alike_18 F_C_110 (fxo_65 hx) rfl (fxp_65_1 hx) ?_
    refine x_iload_n dX10_alike_21 rfl ?_
    refine x_callV (k2 := 0) (n2 := 0) dX10_alike_22 LV_C_113 (m_Table_has tCoins) rfl rfl (fxo_68 hx) rfl (Nat.le_of_ble_eq_true rfl) (Nat.le_of_ble_eq_true rfl) (Nat.le_of_ble_eq_true rfl) (Nat.le_of_ble_eq_true rfl) ?_
    rintro _ _ ⟨rfl, rfl⟩
    refine x_if_ne (tgt := 30) dX10_alike_25 rfl (fun c25 => ?_) (fun c25 => ?_)
    · obtain ⟨q, hq, rfl⟩ := i_2 (n := n0) (by omega) (b_t c11)
      have hqc : q < cN s 0 := by rw [k0]; exact hq
      obtain ⟨p, hp, rfl⟩ := i_2 (n := n0) (by omega) (b_t c25)
      have hpc : p < cN s 0 := by rw [k0]; exact hp
      have hyes : (0 ≤ nI q ∧ nI q < s 0) ∧ 0 ≤ nI p ∧ nI p < s 0 := by rw [e0]; exact ⟨b_t c11, b_t c25⟩
      refine x_iload_n dX10_alike_30 rfl ?_
      refine x_iload_n dX10_alike_31 rfl ?_
      refine x_icmp_ne (tgt := 38) dX10_alike_32 rfl (fun c32 => ?_) (fun c32 => ?_)
      · have hqp : ¬ q = p := fun z => c32 (by rw [z])
        refine x_aload_n dX10_alike_38 rfl ?_
        refine y_getr dX10_alike_39 F_C_43 (fxo_64 hx) rfl (fxp_64_4 hx) ?_
        refine x_callV (k2 := 0) (n2 := 0) dX10_alike_42 LV_C_150 (m_Guesses_survey hx hW hR htN ht1 ht9) rfl rfl (fxo_100 hx) rfl (Nat.le_of_ble_eq_true rfl) (Nat.le_of_ble_eq_true rfl) (Nat.le_of_ble_eq_true rfl) (Nat.le_of_ble_eq_true rfl) ?_
        rintro _ _ ⟨I1, rfl, rfl, hF, hv⟩
        have hN9 := nGu_le (s := s) ht1 ht9
        have hctN := ctN_bd hR
        have hvl : I1 100 4 = nI (ctN s) := by rw [hv.1, br_left hR]
        refine x_aload_n dX10_alike_45 rfl ?_
        refine y_getr dX10_alike_46 F_C_43 (fxo_64 hx) rfl (fxp_64_4 hx) ?_
        refine x_iload_n dX10_alike_49 rfl ?_
        refine x_iload_n dX10_alike_50 rfl ?_
        refine x_callV (k2 := 0) (n2 := 0) dX10_alike_51 LV_C_171 (m_Guesses_areAlike (I := I1) hx (a := q) (b := p) (l := ctN s) (x1 := alS s (min q p) (max q p) (gN s)) (by omega) (by omega) hvl (by omega) (by have := alS_bd hR (a := min q p) (b := max q p); omega) (by rw [hv.2.2 (min q p) (max q p) 1 (by omega) (by omega) (by decide), br_al hR (by omega) (by omega)])) rfl rfl (fxo_100 hx) rfl (Nat.le_of_ble_eq_true rfl) (Nat.le_of_ble_eq_true rfl) (Nat.le_of_ble_eq_true rfl) (Nat.le_of_ble_eq_true rfl) ?_
        rintro _ _ ⟨rfl, rfl⟩
        refine x_if_eq (tgt := 61) dX10_alike_54 rfl (fun c54 => ?_) (fun c54 => ?_)
        · skip
          refine x_iconst (v := 0) dX10_alike_61 (by decide) ?_
          refine x_ireturn dX10_alike_62 rfl nb_int ?_
          have h9 := b_f c54
          exact ⟨I1, by unfold a_alike; rw [if_pos hyes, if_neg c32, nI_clamp (by omega), nI_clamp (by omega), if_neg (fun y => h9 ((al_i hR hqc hpc).mpr y))], rfl, hF⟩
        · skip
          refine x_iconst (v := 1) dX10_alike_57 (by decide) ?_
          refine x_goto (tgt := 62) dX10_alike_58 rfl ?_
          refine x_ireturn dX10_alike_62 rfl nb_int ?_
          have h9 := b_t c54
          exact ⟨I1, by unfold a_alike; rw [if_pos hyes, if_neg c32, nI_clamp (by omega), nI_clamp (by omega), if_pos ((al_i hR hqc hpc).mp h9)], rfl, hF⟩
      · refine x_bipush (v := (-2)) dX10_alike_35 (by decide) ?_
        refine x_ireturn dX10_alike_37 rfl nb_int ?_
        exact ⟨I, by unfold a_alike; rw [if_pos hyes, if_pos c32], rfl, xFrm.rf⟩
    · refine x_iconst (v := (-1)) dX10_alike_28 (by decide) ?_
      refine x_ireturn dX10_alike_29 rfl nb_int ?_
      have hno : ¬ ((0 ≤ a ∧ a < s 0) ∧ 0 ≤ b ∧ b < s 0) := by
        rw [e0]
        first
        | (have h9 := b_f c11; exact fun y => h9 y.1)
        | (have h9 := b_f c25; exact fun y => h9 y.2)
      exact ⟨I, by unfold a_alike; rw [if_neg hno], rfl, xFrm.rf⟩

set_option maxHeartbeats 4000000 in
set_option maxRecDepth 100000 in
theorem m_C_wrong {g : xG} {nx : Nat} {sh : Nat → Nat × Nat} {P : Nat → Nat → Option Nat} {I : Nat → Nat → Int32} (hx : xFx sh P) {s : Nat → Int32} (hW : xWN nx sh P I s) (hR : RI s)  : xMet g Y_C_wrong 6 0 0 [.ref 64] (nx, sh, P, I) (fun r σ => ∃ I1 : Nat → Nat → Int32, r = some (.int (a_wrong s)) ∧ σ = (nx, sh, P, I1) ∧ xFrm [80, 102, 103, 104, 105, 106] I I1) := by
  refine xMet.of [some (.ref 64)] (by decide +kernel) (Nat.le_of_ble_eq_true rfl) rfl ?_
  obtain ⟨⟨tTape, tCoins, tWares, tBuys, tSlates, tPlans, tBooked⟩, ⟨cTape, cCoins, cWares, cBuys, cSlates, cPlans, cBooked⟩, hW7, hW9, hL⟩ := id hW
  obtain ⟨⟨n0, b0, e0⟩, ⟨n1, b1, e1⟩, ⟨n2, b2, e2⟩, ⟨n3, b3, e3⟩, ⟨n4, b4, e4⟩, ⟨n5, b5, e5⟩, ⟨n6, b6, e6⟩, ⟨n7, b7, e7⟩, ⟨n9, b9, e9⟩⟩ := hR.k
  have k7 : cN s 7 = n7 := cN_of e7 (by omega)
  rw [k7] at tTape cTape
  have k0 : cN s 0 = n0 := cN_of e0 (by omega)
  rw [k0] at tCoins cCoins
  have k1 : cN s 1 = n1 := cN_of e1 (by omega)
  rw [k1] at tWares cWares
  have k3 : cN s 3 = n3 := cN_of e3 (by omega)
  rw [k3] at tBuys cBuys
  have k4 : cN s 4 = n4 := cN_of e4 (by omega)
  rw [k4] at tSlates cSlates
  have k5 : cN s 5 = n5 := cN_of e5 (by omega)
  rw [k5] at tPlans cPlans
  have k6 : cN s 6 = n6 := cN_of e6 (by omega)
  rw [k6] at tBooked cBooked
  obtain ⟨ht1, ht9, htN⟩ := tN_bd hR
  refine x_aload_n dX10_wrong_0 rfl ?_
  refine y_getr dX10_wrong_1 F_C_43 (fxo_64 hx) rfl (fxp_64_4 hx) ?_
  refine x_callV (k2 := 0) (n2 := 0) dX10_wrong_4 LV_C_174 (m_Guesses_firstWrong hx hW hR htN ht1 ht9) rfl rfl (fxo_100 hx) rfl (Nat.le_of_ble_eq_true rfl) (Nat.le_of_ble_eq_true rfl) (Nat.le_of_ble_eq_true rfl) (Nat.le_of_ble_eq_true rfl) ?_
  rintro _ _ ⟨I1, rfl, rfl, hF⟩
  refine x_ireturn dX10_wrong_7 rfl nb_int ?_
  exact ⟨I1, by rw [br_wrong hR], rfl, hF⟩

set_option maxHeartbeats 4000000 in
set_option maxRecDepth 100000 in
theorem m_C_cheated {g : xG} {nx : Nat} {sh : Nat → Nat × Nat} {P : Nat → Nat → Option Nat} {I : Nat → Nat → Int32} (hx : xFx sh P) {s : Nat → Int32} (hW : xWN nx sh P I s) (hR : RI s)  : xMet g Y_C_cheated 6 0 0 [.ref 64] (nx, sh, P, I) (fun r σ => ∃ I1 : Nat → Nat → Int32, r = some (.int (a_cheated s)) ∧ σ = (nx, sh, P, I1) ∧ xFrm [80, 102, 103, 104, 105, 106] I I1) := by
  refine xMet.of [some (.ref 64)] (by decide +kernel) (Nat.le_of_ble_eq_true rfl) rfl ?_
  obtain ⟨⟨tTape, tCoins, tWares, tBuys, tSlates, tPlans, tBooked⟩, ⟨cTape, cCoins, cWares, cBuys, cSlates, cPlans, cBooked⟩, hW7, hW9, hL⟩ := id hW
  obtain ⟨⟨n0, b0, e0⟩, ⟨n1, b1, e1⟩, ⟨n2, b2, e2⟩, ⟨n3, b3, e3⟩, ⟨n4, b4, e4⟩, ⟨n5, b5, e5⟩, ⟨n6, b6, e6⟩, ⟨n7, b7, e7⟩, ⟨n9, b9, e9⟩⟩ := hR.k
  have k7 : cN s 7 = n7 := cN_of e7 (by omega)
  rw [k7] at tTape cTape
  have k0 : cN s 0 = n0 := cN_of e0 (by omega)
  rw [k0] at tCoins cCoins
  have k1 : cN s 1 = n1 := cN_of e1 (by omega)
  rw [k1] at tWares cWares
  have k3 : cN s 3 = n3 := cN_of e3 (by omega)
  rw [k3] at tBuys cBuys
  have k4 : cN s 4 = n4 := cN_of e4 (by omega)
  rw [k4] at tSlates cSlates
  have k5 : cN s 5 = n5 := cN_of e5 (by omega)
  rw [k5] at tPlans cPlans
  have k6 : cN s 6 = n6 := cN_of e6 (by omega)
  rw [k6] at tBooked cBooked
  obtain ⟨ht1, ht9, htN⟩ := tN_bd hR
  refine x_aload_n dX10_cheated_0 rfl ?_
  refine y_getr dX10_cheated_1 F_C_43 (fxo_64 hx) rfl (fxp_64_4 hx) ?_
  refine x_callV (k2 := 0) (n2 := 0) dX10_cheated_4 LV_C_177 (m_Guesses_leastCheat hx hW hR htN ht1 ht9) rfl rfl (fxo_100 hx) rfl (Nat.le_of_ble_eq_true rfl) (Nat.le_of_ble_eq_true rfl) (Nat.le_of_ble_eq_true rfl) (Nat.le_of_ble_eq_true rfl) ?_
  rintro _ _ ⟨I1, rfl, rfl, hF⟩
  refine x_ireturn dX10_cheated_7 rfl nb_int ?_
  exact ⟨I1, by rw [br_cheated hR], rfl, hF⟩

set_option maxHeartbeats 4000000 in
set_option maxRecDepth 100000 in
theorem m_C_hold {g : xG} {nx : Nat} {sh : Nat → Nat × Nat} {P : Nat → Nat → Option Nat} {I : Nat → Nat → Int32} (hx : xFx sh P) {s : Nat → Int32} (hW : xWN nx sh P I s) (hR : RI s) {w : Int32} : xMet g Y_C_hold 6 0 0 [.ref 64, .int w] (nx, sh, P, I) (fun r σ => ∃ I1 : Nat → Nat → Int32, r = some (.int (a_hold s w)) ∧ σ = (nx, sh, P, I1) ∧ xFrm [80, 100, 102, 103, 104, 105, 106, 107, 108] I I1) := by
  refine xMet.of [some (.ref 64), some (.int w), none] (by decide +kernel) (Nat.le_of_ble_eq_true rfl) rfl ?_
  obtain ⟨⟨tTape, tCoins, tWares, tBuys, tSlates, tPlans, tBooked⟩, ⟨cTape, cCoins, cWares, cBuys, cSlates, cPlans, cBooked⟩, hW7, hW9, hL⟩ := id hW
  obtain ⟨⟨n0, b0, e0⟩, ⟨n1, b1, e1⟩, ⟨n2, b2, e2⟩, ⟨n3, b3, e3⟩, ⟨n4, b4, e4⟩, ⟨n5, b5, e5⟩, ⟨n6, b6, e6⟩, ⟨n7, b7, e7⟩, ⟨n9, b9, e9⟩⟩ := hR.k
  have k7 : cN s 7 = n7 := cN_of e7 (by omega)
  rw [k7] at tTape cTape
  have k0 : cN s 0 = n0 := cN_of e0 (by omega)
  rw [k0] at tCoins cCoins
  have k1 : cN s 1 = n1 := cN_of e1 (by omega)
  rw [k1] at tWares cWares
  have k3 : cN s 3 = n3 := cN_of e3 (by omega)
  rw [k3] at tBuys cBuys
  have k4 : cN s 4 = n4 := cN_of e4 (by omega)
  rw [k4] at tSlates cSlates
  have k5 : cN s 5 = n5 := cN_of e5 (by omega)
  rw [k5] at tPlans cPlans
  have k6 : cN s 6 = n6 := cN_of e6 (by omega)
  rw [k6] at tBooked cBooked
  obtain ⟨ht1, ht9, htN⟩ := tN_bd hR
  refine x_iload_n dX10_hold_0 rfl ?_
  refine x_iconst (v := 0) dX10_hold_1 (by decide) ?_
  refine x_iconst (v := 1) dX10_hold_2 (by decide) ?_
  refine x_callS (k2 := 0) (n2 := 0) dX10_hold_3 LS_C_71 m_C_isOutside rfl rfl (Nat.le_of_ble_eq_true rfl) (Nat.le_of_ble_eq_true rfl) (Nat.le_of_ble_eq_true rfl) (Nat.le_of_ble_eq_true rfl) ?_
  rintro _ _ ⟨rfl, rfl⟩
  refine x_if_eq (tgt := 11) dX10_hold_6 rfl (fun c6 => ?_) (fun c6 => ?_)
  · refine x_aload_n dX10_hold_11 rfl ?_
    refine y_getr dX10_hold_12 F_C_43 (fxo_64 hx) rfl (fxp_64_4 hx) ?_
    refine x_callV (k2 := 0) (n2 := 0) dX10_hold_15 LV_C_150 (m_Guesses_survey hx hW hR htN ht1 ht9) rfl rfl (fxo_100 hx) rfl (Nat.le_of_ble_eq_true rfl) (Nat.le_of_ble_eq_true rfl) (Nat.le_of_ble_eq_true rfl) (Nat.le_of_ble_eq_true rfl) ?_
    rintro _ _ ⟨I1, rfl, rfl, hF, hv⟩
    have hN9 := nGu_le (s := s) ht1 ht9
    have hctN := ctN_bd hR
    have hvl : I1 100 4 = nI (ctN s) := by rw [hv.1, br_left hR]
    refine x_aload_n dX10_hold_18 rfl ?_
    refine y_getr dX10_hold_19 F_C_43 (fxo_64 hx) rfl (fxp_64_4 hx) ?_
    refine x_callV (k2 := 0) (n2 := 0) dX10_hold_22 LV_C_180 (m_Guesses_pairToHold (I := I1) hx (hW.fl hF) hR (W := wC s) hvl (by omega) (fun a b hab hb4 => ⟨_, _, _, hv.2.2 a b 0 hab hb4 (by decide), hv.2.2 a b 1 hab hb4 (by decide), hv.2.2 a b 2 hab hb4 (by decide), (by have := ctB_le (p := okC s (tN s) a b 0) (nGu s (tN s)); omega), (by have := ctB_le (p := okC s (tN s) a b 1) (nGu s (tN s)); omega), (by have := ctB_le (p := okC s (tN s) a b 2) (nGu s (tN s)); omega), rfl⟩)) rfl rfl (fxo_100 hx) rfl (Nat.le_of_ble_eq_true rfl) (Nat.le_of_ble_eq_true rfl) (Nat.le_of_ble_eq_true rfl) (Nat.le_of_ble_eq_true rfl) ?_
    rintro _ _ ⟨rfl, rfl⟩
    have hqe := hq_I hR (cN s 0) (Nat.le_refl _)
    rw [hqe]
    have hcase : hdI s (cN s 0) = (-5, -5) ∨ ∃ a b, a < b ∧ b < cN s 0 ∧ hdI s (cN s 0) = (nI (10 * a + b), nI (wC s a b)) := by
      rw [← hqe]
      by_cases hc : 0 < ctN s
      · rw [if_pos hc]; exact hq_in _ (Nat.le_refl _)
      · rw [if_neg hc]; exact Or.inl rfl
    refine x_istore_n dX10_hold_25 (Nat.le_of_ble_eq_true rfl) ?_
    try simp only [xst, xst2, xclr, xset, xwide]
    refine x_iload_n dX10_hold_26 rfl ?_
    refine x_bipush (v := (-5)) dX10_hold_27 (by decide) ?_
    refine x_icmp_ne (tgt := 35) dX10_hold_29 rfl (fun c29 => ?_) (fun c29 => ?_)
    · obtain ⟨a, b, hab, hbn, hde⟩ := hcase.resolve_left (fun y => c29 (by rw [y]))
      rw [hde]
      refine x_iload_n dX10_hold_35 rfl ?_
      refine x_if_ne (tgt := 43) dX10_hold_36 rfl (fun c36 => ?_) (fun c36 => ?_)
      · skip
        refine x_aload_n dX10_hold_43 rfl ?_
        refine y_getr dX10_hold_44 F_C_43 (fxo_64 hx) rfl (fxp_64_4 hx) ?_
        refine x_iload_n dX10_hold_47 rfl ?_
        refine x_bipush (v := 10) dX10_hold_48 (by decide) ?_
        refine x_idiv dX10_hold_50 (by decide) ?_
        rw [show nI (10 * a + b) / 10 = nI a from by rw [show (10 : Int32) = nI 10 from rfl, pk_div (by omega) (by decide) (by decide)]; exact congrArg nI (by omega)]
        refine x_iload_n dX10_hold_51 rfl ?_
        refine x_bipush (v := 10) dX10_hold_52 (by decide) ?_
        refine x_irem dX10_hold_54 (by decide) ?_
        rw [show nI (10 * a + b) - nI (10 * a + b) / 10 * 10 = nI b from by rw [show (10 : Int32) = nI 10 from rfl, pk_rem (by omega) (by decide) (by decide)]; exact congrArg nI (by omega)]
        refine x_callV (k2 := 0) (n2 := 0) dX10_hold_55 LV_C_183 (m_Guesses_worstOf (I := I1) hx (a := a) (b := b) (by omega) (by omega) (hv.2.2 a b 0 hab (by omega) (by decide)) (hv.2.2 a b 1 hab (by omega) (by decide)) (hv.2.2 a b 2 hab (by omega) (by decide)) (by have := ctB_le (p := okC s (tN s) a b 0) (nGu s (tN s)); omega) (by have := ctB_le (p := okC s (tN s) a b 1) (nGu s (tN s)); omega) (by have := ctB_le (p := okC s (tN s) a b 2) (nGu s (tN s)); omega)) rfl rfl (fxo_100 hx) rfl (Nat.le_of_ble_eq_true rfl) (Nat.le_of_ble_eq_true rfl) (Nat.le_of_ble_eq_true rfl) (Nat.le_of_ble_eq_true rfl) ?_
        rintro _ _ ⟨rfl, rfl⟩
        refine x_ireturn dX10_hold_58 rfl nb_int ?_
        exact ⟨I1, by unfold a_hold; rw [if_pos (o_t c6), if_neg c36, hde]; rfl, rfl, hF⟩
      · skip
        refine x_iload_n dX10_hold_39 rfl ?_
        refine x_goto (tgt := 58) dX10_hold_40 rfl ?_
        refine x_ireturn dX10_hold_58 rfl nb_int ?_
        exact ⟨I1, by unfold a_hold; rw [if_pos (o_t c6), if_pos c36, hde], rfl, hF⟩
    · refine x_bipush (v := (-5)) dX10_hold_32 (by decide) ?_
      refine x_ireturn dX10_hold_34 rfl nb_int ?_
      have hz5 := hcase.resolve_right (by rintro ⟨a, b, hab, hbn, hde⟩; rw [hde] at c29; exact nI_m5 (by omega) c29)
      exact ⟨I1, by unfold a_hold; rw [if_pos (o_t c6), hz5]; split <;> rfl, rfl, hF⟩
  · refine x_iconst (v := (-1)) dX10_hold_9 (by decide) ?_
    refine x_ireturn dX10_hold_10 rfl nb_int ?_
    exact ⟨I, by unfold a_hold; rw [if_neg (o_f c6)], rfl, xFrm.rf⟩
