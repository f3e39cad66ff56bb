/-! the reference: a clause -/
theorem lk_out {k : Int} {o1 o2 o3 o4 a1 a2 a3 a4 dflt : Int} (h1 : ¬ a1 = k) (h2 : ¬ a2 = k) (h3 : ¬ a3 = k) (h4 : ¬ a4 = k) : Op.lookupswitch.offset [(a1, o1), (a2, o2), (a3, o3), (a4, o4)] dflt k = dflt := by
  rw [Op.lookupswitch.offset_cons, if_neg h1, Op.lookupswitch.offset_cons, if_neg h2, Op.lookupswitch.offset_cons, if_neg h3, Op.lookupswitch.offset_cons, if_neg h4, Op.lookupswitch.offset_nil]
theorem spL_ge {T : Nat → Int32} {en i sp : Nat} {wr : Bool} : ∀ k, sp ≤ (spL T en i sp wr k).1
  | 0 => Nat.le_refl _
  | k + 1 => by
    have h1 := spL_ge (T := T) (en := en) (i := i) (sp := sp) (wr := wr) k
    have h2 := muS_ge (T := T) (en := en) (sp := (spL T en i sp wr k).1) (wr := (spL T en i sp wr k).2) (c := sg i k)
    show _ ≤ muS _ _ _ _ _
    omega
theorem spL_en {T : Nat → Int32} {en i sp : Nat} {wr : Bool} (hi : i < 10) (h : sp ≤ en) : ∀ k, k ≤ 6 → (spL T en i sp wr k).1 ≤ en
  | 0, _ => h
  | k + 1, hk => by
    unfold spL
    exact muS_en (sg_nm ⟨i, hi⟩ ⟨k, by omega⟩) (spL_en hi h k (by omega))
theorem q_spells {g : xG} {nx : Nat} {sh : Nat → Nat × Nat} {P : Nat → Nat → Option Nat} {I : Nat → Nat → Int32} (hx : xFx sh P) {T : Nat → Int32} {i en sp op ac mm : Nat} {wr : Bool} (hi : i < 10) (hp : xPa I T en sp wr op ac mm) : xMet g Y_M_spells 4 0 0 [.ref 127, .ref (8 + i)] (nx, sh, P, I) (fun r σ => ∃ I1 : Nat → Nat → Int32, r = none ∧ σ = (nx, sh, P, I1) ∧ xPt I I1 ac mm [] ∧ xPa I1 T en (spL T en i sp wr (xTl.getD i 0)).1 (spL T en i sp wr (xTl.getD i 0)).2 op ac mm) := by
  have hq := hp.1
  have hse := hp.2.2.2.2.2.2.1
  have hen := hq.2.2.2.1
  refine (r_spells hx hi hq (by omega)).po ?_
  rintro _ _ ⟨I1, rfl, rfl, hF, hD, hq1⟩
  rw [spL_e hp.2.2.2.2.2.2.2] at hq1
  exact ⟨I1, rfl, rfl, hp.fd hF hD hq1 (spL_ge _) (spL_en hi hse _ (sl_le ⟨i, hi⟩))⟩
theorem ch_le {T : Nat → Int32} {en sp k : Nat} (hk : k < 4) (h : sp ≤ en) : sp ≤ (chN T en sp k).2 ∧ (chN T en sp k).2 ≤ en := ⟨Nat.le_trans (spL_ge _) fgS_ge, fgS_en (spL_en (by omega) h _ (sl_le ⟨6 + k, by omega⟩))⟩
theorem muS_f {T : Nat → Int32} {en sp : Nat} {wr : Bool} {c : Int32} (h : muW T en sp wr c = false) : muS T en sp wr c = sp + 1 := by unfold muS; rw [h, if_neg (by decide)]
def tpU (k ac : Nat) (n : Int32) (s : Nat → Int32) : Nat → Int32 := if k < 2 then upd s (217 + 5 * k + ac) n else s
def xCq (nx : Nat) (sh : Nat → Nat × Nat) (P : Nat → Nat → Option Nat) (I : Nat → Nat → Int32) (T : Nat → Int32) (en sp ac mm : Nat) (r : Option Value) (σ : xS) : Prop := ∃ (I1 : Nat → Nat → Int32) (sp1 : Nat), r = none ∧ σ = (nx, sh, P, I1) ∧ xFrm [127, 128] I I1 ∧ xFd [5, 7, 8] I I1 ∧
  ((clR T en sp none sp1 ∧ xRd I1 sp1 en true ∧ ∀ j, j < 232 + 140 * ac → j ≠ 217 + ac → j ≠ 222 + ac → j ≠ 227 + ac → I1 128 j = I 128 j) ∨
   ∃ (k n : Nat) (tk : List Int32) (v : (Nat → Int32) → Bool) (L : List Int32), clR T en sp (some (k, nI n, tk)) sp1 ∧ k < 4 ∧ n ≤ 99 ∧ (2 ≤ k → mS tk v) ∧ xPa I1 T en sp1 false 0 ac (mm + L.length) ∧ xWr (tpU k ac (nI n) (I 128)) (I1 128) ac mm L ∧ (k < 2 → L = []) ∧ (2 ≤ k → ∃ L2, L = L2 ++ [(if k = 2 then -10 else -200) - nI n] ∧ mR L2 20 v))

set_option maxHeartbeats 4000000 in
set_option maxRecDepth 100000 in
theorem r_someW2 {g : xG} {nx : Nat} {sh : Nat → Nat × Nat} {P : Nat → Nat → Option Nat} {I : Nat → Nat → Int32} (hx : xFx sh P) {d : Nat} (hd : 2 ≤ d) (h7 : I 127 7 = 1) : xMet g Y_M_some d 0 0 [.ref 127] (nx, sh, P, I) (fun r σ => r = none ∧ σ = (nx, sh, P, I)) := by
  refine xMet.of [some (.ref 127)] (by decide +kernel) (Nat.le_of_ble_eq_true rfl) rfl ?_
  refine x_aload_n dX11_some_0 rfl ?_
  refine x_callV (k2 := 0) (n2 := 0) dX11_some_1 LV_M_122 (r_everyW (I := I) hx h7) rfl rfl (fxo_127 hx) rfl (by omega) (Nat.le_of_ble_eq_true rfl) (Nat.le_of_ble_eq_true rfl) (Nat.le_of_ble_eq_true rfl) ?_
  rintro _ _ ⟨rfl, rfl⟩
  refine x_aload_n dX11_some_4 rfl ?_
  refine y_geti dX11_some_5 F_M_75 (fxo_127 hx) rfl h7 ?_
  refine x_if_ne (tgt := 43) dX11_some_8 rfl (fun c8 => ?_) (fun c8 => ?_)
  · refine x_return dX11_some_43 rfl ?_
    exact ⟨rfl, rfl⟩
  · exact absurd c8 (by decide)

theorem r_someC {g : xG} {nx : Nat} {sh : Nat → Nat × Nat} {P : Nat → Nat → Option Nat} {I : Nat → Nat → Int32} (hx : xFx sh P) {T : Nat → Int32} {en sp ac mm : Nat} {wr : Bool} (hp : xPa I T en sp wr 0 ac mm) : xMet g Y_M_some 22 0 0 [.ref 127] (nx, sh, P, I) (fun r σ => ∃ (I1 : Nat → Nat → Int32) (sp1 : Nat) (wr1 : Bool) (L : List Int32), r = none ∧ σ = (nx, sh, P, I1) ∧ xPt I I1 ac mm L ∧ xPa I1 T en sp1 wr1 0 ac (mm + L.length) ∧ sp + L.length ≤ sp1 ∧ ((wr = true ∧ wr1 = true ∧ sp1 = sp) ∨ (wr = false ∧ xRS T en sp 0 sp1 wr1 L ∧ (wr1 = false → ¬ hrT T en sp1 = 38 ∧ ¬ hrT T en sp1 = 124)))) := by
  cases wr
  · refine ((r_par (g := g) 5).2.2 _ _ _ _ _ _ _ _ _ _ hx hp rfl).po ?_
    rintro _ _ ⟨I1, sp1, w1, L1, rfl, rfl, t1, p1, hl1, hR1, hE1⟩
    exact ⟨I1, sp1, w1, L1, rfl, rfl, t1, p1, hl1, Or.inr ⟨rfl, hR1, hE1⟩⟩
  · refine (r_someW2 hx (by decide) hp.1.2.2.1).po ?_
    rintro _ _ ⟨rfl, rfl⟩
    exact ⟨I, sp, true, [], rfl, rfl, xPt.rf hp.2.2.2.2.1, hp, Nat.le_refl _, Or.inl ⟨rfl, rfl, rfl⟩⟩
set_option maxHeartbeats 4000000 in
set_option maxRecDepth 100000 in
theorem r_muchX {g : xG} {nx : Nat} {sh : Nat → Nat × Nat} {P : Nat → Nat → Option Nat} {I : Nat → Nat → Int32} (hx : xFx sh P) {kd : Int32} {T : Nat → Int32} {en sp ac mm k i : Nat} (hk2 : 2 ≤ k) (hk : k < 4) (hi : i = 6 + k) (hp : xPa I T en sp false 0 ac mm) : xMet g Y_M_much 23 0 0 [.ref 127, .int kd, .ref (8 + i)] (nx, sh, P, I) (fun r σ => ∃ (I1 : Nat → Nat → Int32) (sp1 : Nat) (wr1 : Bool) (L : List Int32), r = none ∧ σ = (nx, sh, P, I1) ∧ xPt I I1 ac mm L ∧ xPa I1 T en sp1 wr1 0 ac (mm + L.length) ∧ ((wr1 = true ∧ ckR T en sp k none sp1) ∨ (wr1 = false ∧ ∃ tk v L2, L = L2 ++ [kd - (chN T en sp k).1] ∧ ckR T en sp k (some (k, (chN T en sp k).1, tk)) sp1 ∧ mS tk v ∧ mR L2 20 v))) := by
  refine xMet.of [some (.ref 127), some (.int kd), some (.ref (8 + i)), none] (by decide +kernel) (Nat.le_of_ble_eq_true rfl) rfl ?_
  subst hi
  obtain ⟨hq, h8, h4, ha4, hm, hms, hse, hT⟩ := id hp
  obtain ⟨h5, h6, h7, hen, hsp⟩ := id hq
  refine x_aload_n dX11_much_0 rfl ?_
  refine x_aload_n dX11_much_1 rfl ?_
  refine x_callV (k2 := 0) (n2 := 0) dX11_much_2 LV_M_125 (q_spells (i := 6 + k) hx (by omega) hp) rfl rfl (fxo_127 hx) rfl (Nat.le_of_ble_eq_true rfl) (Nat.le_of_ble_eq_true rfl) (Nat.le_of_ble_eq_true rfl) (Nat.le_of_ble_eq_true rfl) ?_
  rintro _ _ ⟨I1, rfl, rfl, t1, p1⟩
  have p1 : xPa I1 T en (chA T en sp k).1 (chA T en sp k).2 0 ac mm := p1
  refine x_aload_n dX11_much_5 rfl ?_
  refine x_callV (k2 := 0) (n2 := 0) dX11_much_6 LV_M_119 (q_figures (I := I1) hx p1) rfl rfl (fxo_127 hx) rfl (Nat.le_of_ble_eq_true rfl) (Nat.le_of_ble_eq_true rfl) (Nat.le_of_ble_eq_true rfl) (Nat.le_of_ble_eq_true rfl) ?_
  rintro _ _ ⟨I2, rfl, rfl, t2, p2⟩
  have p2 : xPa I2 T en (chN T en sp k).2 (chW T en sp k) 0 ac mm := p2
  rw [show (fgS T en (chA T en sp k).1 (chA T en sp k).2).1 = (chN T en sp k).1 from rfl]
  refine x_istore_n dX11_much_9 (Nat.le_of_ble_eq_true rfl) ?_
  try simp only [xst, xst2, xclr, xset, xwide]
  refine x_aload_n dX11_much_10 rfl ?_
  refine x_bipush (v := 32) dX11_much_11 (by decide) ?_
  refine x_callV (k2 := 0) (n2 := 0) dX11_much_13 LV_M_92 (q_must (I := I2) (c := 32) hx p2 (by decide)) rfl rfl (fxo_127 hx) rfl (Nat.le_of_ble_eq_true rfl) (Nat.le_of_ble_eq_true rfl) (Nat.le_of_ble_eq_true rfl) (Nat.le_of_ble_eq_true rfl) ?_
  rintro _ _ ⟨I3, rfl, rfl, t3, p3⟩
  have p3 : xPa I3 T en (chS T en sp k) (chM T en sp k) 0 ac mm := p3
  refine x_aload_n dX11_much_16 rfl ?_
  refine x_callV (k2 := 0) (n2 := 0) dX11_much_17 LV_M_108 (r_someC (I := I3) hx p3) rfl rfl (fxo_127 hx) rfl (Nat.le_of_ble_eq_true rfl) (Nat.le_of_ble_eq_true rfl) (Nat.le_of_ble_eq_true rfl) (Nat.le_of_ble_eq_true rfl) ?_
  rintro _ _ ⟨I4, sp4, w4, L4, rfl, rfl, t4, p4, hl4, hC⟩
  refine x_aload_n dX11_much_20 rfl ?_
  refine x_iload_n dX11_much_21 rfl ?_
  refine x_iload_n dX11_much_22 rfl ?_
  refine x_isub dX11_much_23 ?_
  have hm4 : w4 = false → mm + L4.length + 1 ≤ sp4 := by
    rintro rfl
    rcases hC with ⟨-, z, -⟩ | ⟨hz, -, -⟩
    · cases z
    · have e : chS T en sp k = (chN T en sp k).2 + 1 := muS_f hz
      have := (ch_le (T := T) hk hse).1
      omega
  refine x_callV (k2 := 0) (n2 := 0) dX11_much_24 LV_M_105 (q_emits (I := I4) hx p4 hm4) rfl rfl (fxo_127 hx) rfl (Nat.le_of_ble_eq_true rfl) (Nat.le_of_ble_eq_true rfl) (Nat.le_of_ble_eq_true rfl) (Nat.le_of_ble_eq_true rfl) ?_
  rintro _ _ ⟨I5, rfl, rfl, t5, p5⟩
  refine x_return dX11_much_27 rfl ?_
  have t7 := ((t1.tr (L := []) ha4 t2).tr (L := [] ++ []) ha4 t3).tr (L := [] ++ [] ++ []) ha4 (t4.tr ha4 t5)
  refine ⟨I5, sp4, w4, L4 ++ emL w4 (kd - (chN T en sp k).1), rfl, rfl, t7, by rw [List.length_append, ← Nat.add_assoc]; exact p5, ?_⟩
  rcases hC with ⟨hz, rfl, rfl⟩ | ⟨hz, hR4, hE4⟩
  · exact Or.inl ⟨rfl, Or.inr (Or.inr (Or.inr (Or.inl ⟨hk2, hk, hz, rfl, rfl⟩)))⟩
  · rcases hR4 with ⟨rfl, h9⟩ | ⟨rfl, tk, v, h9, h10, h11⟩
    · exact Or.inl ⟨rfl, Or.inr (Or.inr (Or.inr (Or.inr (Or.inl ⟨hk2, hk, hz, rfl, h9 [] [] rfl (Or.inl rfl)⟩))))⟩
    · refine Or.inr ⟨rfl, tk, v, L4, rfl, Or.inr (Or.inr (Or.inr (Or.inr (Or.inr ⟨hk2, hk, hz, tk, rfl, (h9 [] [] rfl (Or.inl rfl)).tr (pR.st ?_)⟩)))), h10, h11.mono (by omega)⟩
      obtain ⟨e1, e2⟩ := hE4 rfl
      rw [pS_n, if_neg e2, if_neg e1]; rfl

theorem q_tells {g : xG} {nx : Nat} {sh : Nat → Nat × Nat} {P : Nat → Nat → Option Nat} {I : Nat → Nat → Int32} (hx : xFx sh P) {T : Nat → Int32} {en sp ac mm k i wh : Nat} (hk : k < 2) (hi : i = 6 + k) (hw : wh = 217 + 5 * k) (hcl : clW T en sp = k) (hp : xPa I T en sp false 0 ac mm) : xMet g Y_M_tellsHere 5 0 0 [.ref 127, .int (nI wh), .ref (8 + i)] (nx, sh, P, I) (xCq nx sh P I T en sp ac mm) := by
  obtain ⟨hq, h8, h4, ha4, hm, hms, hse, hT⟩ := id hp
  have hen := hq.2.2.2.1
  subst hi hw
  refine (r_tellsHere (wh := 217 + 5 * k) (i := 6 + k) hx (by omega) (by omega) hq (by omega) h4 ha4).po ?_
  rintro _ _ ⟨I1, rfl, rfl, hF, hD, hq1, hs⟩
  rw [spL_e hT, fgS_e hT, fgW_e hT] at hq1 hs
  have hq1 : xRd I1 (chN T en sp k).2 en (chW T en sp k) := hq1
  have hs : I1 128 = if chW T en sp k = true then I 128 else upd (I 128) (217 + 5 * k + ac) (chN T en sp k).1 := hs
  obtain ⟨l1, l2⟩ := ch_le (T := T) (en := en) (sp := sp) (k := k) (by omega) hse
  refine ⟨I1, (chN T en sp k).2, rfl, rfl, hF, fun b hb => hD b (fun z => hb (by grind)), ?_⟩
  cases hW : chW T en sp k
  · right
    rw [hW] at hq1 hs
    rw [if_neg (by decide)] at hs
    obtain ⟨n, hn, hn2⟩ := fgS_bd (T := T) (en := en) (sp := (chA T en sp k).1) (wr := (chA T en sp k).2)
    have hn2 : (chN T en sp k).1 = nI n := hn2
    rw [hn2] at hs
    have e1 : I1 128 (227 + ac) = nI mm := by rw [hs]; unfold upd; rw [if_neg (by omega)]; exact hm
    refine ⟨k, n, [], fun _ => false, [], ?_, by omega, hn, fun h => by omega, ⟨hq1, (hD 8 (by decide)).trans h8, (hD 4 (by decide)).trans h4, ha4, e1, by show mm ≤ _; omega, l2, ?_⟩, ?_, fun _ => rfl, fun h => by omega⟩
    · unfold clR
      rw [hcl]
      exact Or.inr (Or.inr (Or.inl ⟨hk, hW, by rw [hn2], rfl⟩))
    · rw [← hT]
      funext q
      unfold hrT
      by_cases hqe : q < en
      · rw [if_pos hqe, if_pos hqe]
        show I1 128 (117 + q) = I 128 (117 + q)
        rw [hs]; unfold upd; rw [if_neg (by omega)]
      · rw [if_neg hqe, if_neg hqe]
    · have e2 : tpU k ac (nI n) (I 128) = I1 128 := by rw [hs]; unfold tpU; rw [if_pos hk]
      rw [e2]
      exact xWr.rf e1
  · left
    rw [hW] at hq1 hs
    rw [if_pos rfl] at hs
    refine ⟨?_, hq1, fun j _ _ _ _ => by rw [hs]⟩
    unfold clR
    rw [hcl]
    exact Or.inr (Or.inl ⟨hk, hW, rfl, rfl⟩)
theorem q_much {g : xG} {nx : Nat} {sh : Nat → Nat × Nat} {P : Nat → Nat → Option Nat} {I : Nat → Nat → Int32} (hx : xFx sh P) {T : Nat → Int32} {en sp ac mm k i : Nat} {kd : Int32} (hk2 : 2 ≤ k) (hk : k < 4) (hi : i = 6 + k) (hkd : kd = if k = 2 then -10 else -200) (hcl : clW T en sp = k) (hp : xPa I T en sp false 0 ac mm) : xMet g Y_M_much 23 0 0 [.ref 127, .int kd, .ref (8 + i)] (nx, sh, P, I) (xCq nx sh P I T en sp ac mm) := by
  obtain ⟨hq, h8, h4, ha4, hm, hms, hse, hT⟩ := id hp
  refine (r_muchX hx (kd := kd) hk2 hk hi hp).po ?_
  rintro _ _ ⟨I1, sp1, w1, L, rfl, rfl, t1, p1, hC⟩
  refine ⟨I1, sp1, rfl, rfl, t1.1, t1.2.1, ?_⟩
  rcases hC with ⟨rfl, hc⟩ | ⟨rfl, tk, v, L2, hL, hc, hm1, hm2⟩
  · refine Or.inl ⟨?_, p1.1, fun j hj _ _ h3 => t1.2.2.no ha4 (by omega) h3⟩
    unfold clR
    rw [hcl]
    exact hc
  · obtain ⟨n, hn, hn2⟩ := fgS_bd (T := T) (en := en) (sp := (chA T en sp k).1) (wr := (chA T en sp k).2)
    have hn2 : (chN T en sp k).1 = nI n := hn2
    refine Or.inr ⟨k, n, tk, v, L, ?_, hk, hn, fun _ => hm1, p1, ?_, fun h => by omega, fun _ => ⟨L2, by rw [hL, hn2, hkd], hm2⟩⟩
    · unfold clR
      rw [hcl, ← hn2]
      exact hc
    · have e2 : tpU k ac (nI n) (I 128) = I 128 := by unfold tpU; rw [if_neg (by omega)]
      rw [e2]
      exact t1.2.2
set_option maxHeartbeats 4000000 in
set_option maxRecDepth 100000 in
theorem r_clauseHere {g : xG} {nx : Nat} {sh : Nat → Nat × Nat} {P : Nat → Nat → Option Nat} {I : Nat → Nat → Int32} (hx : xFx sh P) {T : Nat → Int32} {en sp ac mm : Nat} (hp : xPa I T en sp false 0 ac mm) : xMet g Y_M_clauseHere 24 0 0 [.ref 127] (nx, sh, P, I) (xCq nx sh P I T en sp ac mm) := by
  refine xMet.of [some (.ref 127)] (by decide +kernel) (Nat.le_of_ble_eq_true rfl) rfl ?_
  obtain ⟨hq, h8, h4, ha4, hm, hms, hse, hT⟩ := id hp
  obtain ⟨h5, h6, h7, hen, hsp⟩ := id hq
  refine x_aload_n dX11_clauseHere_0 rfl ?_
  refine x_callV (k2 := 0) (n2 := 0) dX11_clauseHere_1 LV_M_79 (q_here hx hp) rfl rfl (fxo_127 hx) rfl (Nat.le_of_ble_eq_true rfl) (Nat.le_of_ble_eq_true rfl) (Nat.le_of_ble_eq_true rfl) (Nat.le_of_ble_eq_true rfl) ?_
  rintro _ _ ⟨rfl, rfl⟩
  obtain ⟨c, hc⟩ : ∃ c, hrT T en sp = c := ⟨_, rfl⟩
  rw [hc]
  rcases (show c = 116 ∨ c = 99 ∨ c = 100 ∨ c = 109 ∨ (¬ c = 116 ∧ ¬ c = 99 ∧ ¬ c = 100 ∧ ¬ c = 109) by grind) with rfl | rfl | rfl | rfl | ⟨n1, n2, n3, n4⟩
  · skip
    refine x_lookup (off := 44) (tgt := 48) dX11_clauseHere_4 (by decide) (by decide) rfl ?_
    refine x_aload_n dX11_clauseHere_48 rfl ?_
    refine x_sipush (v := 217) dX11_clauseHere_49 (by decide) ?_
    refine x_ldcS (a := 8 + 6) dX11_clauseHere_52 xl_M_129 ?_
    refine x_callV (k2 := 0) (n2 := 0) dX11_clauseHere_54 LV_M_131 (q_tells (k := 0) (i := 6) (wh := 217) hx (by decide) rfl rfl (by unfold clW; rw [if_pos hc]) hp) rfl rfl (fxo_127 hx) rfl (Nat.le_of_ble_eq_true rfl) (Nat.le_of_ble_eq_true rfl) (Nat.le_of_ble_eq_true rfl) (Nat.le_of_ble_eq_true rfl) ?_
    rintro _ _ hQ
    obtain ⟨I1, sp1, rfl, rfl, hR⟩ := hQ
    refine x_goto (tgt := 100) dX11_clauseHere_57 rfl ?_
    refine x_return dX11_clauseHere_100 rfl ?_
    first | exact ⟨I1, sp1, rfl, rfl, hR⟩ | exact ⟨_, sp, rfl, rfl, t1.1, t1.2.1, Or.inl ⟨by unfold clR clW; rw [hc, if_neg n1, if_neg n2, if_neg n3, if_neg n4]; exact Or.inl ⟨rfl, rfl, rfl⟩, p1.1, fun j hj _ _ h3 => t1.2.2.no ha4 (by omega) h3⟩⟩
  · skip
    refine x_lookup (off := 56) (tgt := 60) dX11_clauseHere_4 (by decide) (by decide) rfl ?_
    refine x_aload_n dX11_clauseHere_60 rfl ?_
    refine x_sipush (v := 222) dX11_clauseHere_61 (by decide) ?_
    refine x_ldcS (a := 8 + 7) dX11_clauseHere_64 xl_M_135 ?_
    refine x_callV (k2 := 0) (n2 := 0) dX11_clauseHere_66 LV_M_131 (q_tells (k := 1) (i := 7) (wh := 222) hx (by decide) rfl rfl (by unfold clW; rw [hc]; rfl) hp) rfl rfl (fxo_127 hx) rfl (Nat.le_of_ble_eq_true rfl) (Nat.le_of_ble_eq_true rfl) (Nat.le_of_ble_eq_true rfl) (Nat.le_of_ble_eq_true rfl) ?_
    rintro _ _ hQ
    obtain ⟨I1, sp1, rfl, rfl, hR⟩ := hQ
    refine x_goto (tgt := 100) dX11_clauseHere_69 rfl ?_
    refine x_return dX11_clauseHere_100 rfl ?_
    first | exact ⟨I1, sp1, rfl, rfl, hR⟩ | exact ⟨_, sp, rfl, rfl, t1.1, t1.2.1, Or.inl ⟨by unfold clR clW; rw [hc, if_neg n1, if_neg n2, if_neg n3, if_neg n4]; exact Or.inl ⟨rfl, rfl, rfl⟩, p1.1, fun j hj _ _ h3 => t1.2.2.no ha4 (by omega) h3⟩⟩
  · skip
    refine x_lookup (off := 68) (tgt := 72) dX11_clauseHere_4 (by decide) (by decide) rfl ?_
    refine x_aload_n dX11_clauseHere_72 rfl ?_
    refine x_bipush (v := (-10)) dX11_clauseHere_73 (by decide) ?_
    refine x_ldcS (a := 8 + 8) dX11_clauseHere_75 xl_M_137 ?_
    refine x_callV (k2 := 0) (n2 := 0) dX11_clauseHere_77 LV_M_139 (q_much (k := 2) (i := 8) hx (by decide) (by decide) rfl rfl (by unfold clW; rw [hc]; rfl) hp) rfl rfl (fxo_127 hx) rfl (Nat.le_of_ble_eq_true rfl) (Nat.le_of_ble_eq_true rfl) (Nat.le_of_ble_eq_true rfl) (Nat.le_of_ble_eq_true rfl) ?_
    rintro _ _ hQ
    obtain ⟨I1, sp1, rfl, rfl, hR⟩ := hQ
    refine x_goto (tgt := 100) dX11_clauseHere_80 rfl ?_
    refine x_return dX11_clauseHere_100 rfl ?_
    first | exact ⟨I1, sp1, rfl, rfl, hR⟩ | exact ⟨_, sp, rfl, rfl, t1.1, t1.2.1, Or.inl ⟨by unfold clR clW; rw [hc, if_neg n1, if_neg n2, if_neg n3, if_neg n4]; exact Or.inl ⟨rfl, rfl, rfl⟩, p1.1, fun j hj _ _ h3 => t1.2.2.no ha4 (by omega) h3⟩⟩
  · skip
    refine x_lookup (off := 79) (tgt := 83) dX11_clauseHere_4 (by decide) (by decide) rfl ?_
    refine x_aload_n dX11_clauseHere_83 rfl ?_
    refine x_sipush (v := (-200)) dX11_clauseHere_84 (by decide) ?_
    refine x_ldcS (a := 8 + 9) dX11_clauseHere_87 xl_M_142 ?_
    refine x_callV (k2 := 0) (n2 := 0) dX11_clauseHere_89 LV_M_139 (q_much (k := 3) (i := 9) hx (by decide) (by decide) rfl rfl (by unfold clW; rw [hc]; rfl) hp) rfl rfl (fxo_127 hx) rfl (Nat.le_of_ble_eq_true rfl) (Nat.le_of_ble_eq_true rfl) (Nat.le_of_ble_eq_true rfl) (Nat.le_of_ble_eq_true rfl) ?_
    rintro _ _ hQ
    obtain ⟨I1, sp1, rfl, rfl, hR⟩ := hQ
    refine x_goto (tgt := 100) dX11_clauseHere_92 rfl ?_
    refine x_return dX11_clauseHere_100 rfl ?_
    first | exact ⟨I1, sp1, rfl, rfl, hR⟩ | exact ⟨_, sp, rfl, rfl, t1.1, t1.2.1, Or.inl ⟨by unfold clR clW; rw [hc, if_neg n1, if_neg n2, if_neg n3, if_neg n4]; exact Or.inl ⟨rfl, rfl, rfl⟩, p1.1, fun j hj _ _ h3 => t1.2.2.no ha4 (by omega) h3⟩⟩
  · skip
    refine x_lookup (off := 91) (tgt := 95) dX11_clauseHere_4 (by decide) (lk_out (fun z => n2 (Int32.toInt_inj.mp z.symm)) (fun z => n3 (Int32.toInt_inj.mp z.symm)) (fun z => n4 (Int32.toInt_inj.mp z.symm)) (fun z => n1 (Int32.toInt_inj.mp z.symm))) rfl ?_
    refine x_aload_n dX11_clauseHere_95 rfl ?_
    refine x_iconst (v := 1) dX11_clauseHere_96 (by decide) ?_
    refine x_puti dX11_clauseHere_97 F_M_75 T_11_7 (fxo_127 hx) rfl rfl rfl ?_
    obtain ⟨t1, p1⟩ := hp.wr true
    refine x_return dX11_clauseHere_100 rfl ?_
    first | exact ⟨I1, sp1, rfl, rfl, hR⟩ | exact ⟨_, sp, rfl, rfl, t1.1, t1.2.1, Or.inl ⟨by unfold clR clW; rw [hc, if_neg n1, if_neg n2, if_neg n3, if_neg n4]; exact Or.inl ⟨rfl, rfl, rfl⟩, p1.1, fun j hj _ _ h3 => t1.2.2.no ha4 (by omega) h3⟩⟩
