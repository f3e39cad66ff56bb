/-! THE CLAIM OUT OF ONE WALK OF THE LAW'S BODY. Your part is whole_start (and what it stands on); all else here is the same for every law, but numbers. -/
def R_law : String := "CoinLandLaw"
def lw_P (b : Addr) (xs : List Int32) (args : Array Value) (s : State) : Prop := args = #[.ref b] ∧ s.IntsAt b xs ∧ xs.length ≤ 3072 ∧ (Jvm.Cond.and given_1 narrow_1).before args s = true
def lw_Q (_ : Array Value) (s : State) (o : Outcome) (t : State) : Prop := o = .returned (some (.int 1)) ∧ Framed s o t [] 600000 7302250
def lw_Z (below : List Frame) (a : Array Value) (s : State) : State → Prop := fun t => ∃ o, t.status = .running ∧ Ended t below o ∧ lw_Q a s o t
/-- the law's own end, with 1 on the stack, nothing written that was there before, its room as the claim has it -/
theorem lw_ret {p : Program} {l : Launch} {e : Env} {s : State} {m : MethodId} {below : List Frame} {meth : Method} {c : Code} {b : Nat} (hx : p.tables.exec = Jvm.exec) (hb : c.code = code) (hr : meth.sig.returnType = ret) (hlocks : meth.locks = false) {pc : Nat} {H : Heap} {ls : Array Slot} (hdg : decode code pc = .ok (.ireturn, 1)) : W p l e room_1 s m #[Value.ref b] below meth c H [] 600000 7302250 (lw_Z below #[Value.ref b] s) (F0 m pc ls [.int 1]) := by
  intro T hT X
  obtain ⟨fs, hret, hrun, hended, hW, hframe⟩ := X.leave (v := some (.int 1)) (hlocks := hlocks) (fun h => by rw [hr] at h; cases h)
  have hmeth' : T.vm.method? m = some meth := X.method'
  refine ⟨T.setFrames fs, ?_, .returned (some (.int 1)), hrun, hended, rfl, ⟨_, rfl⟩, hW, hframe⟩
  jvm_step X.here [X.here.top, hx, hb, hdg, hmeth', hr, ret, narrow_b1]
  (try refine ⟨rfl, ?_⟩); (try refine ⟨rfl, ?_⟩)
  first | (intro acts; rw [hret _ acts rfl rfl rfl]) | rw [hret _ _ rfl rfl rfl]
  exact Steps.refl _
/-- what holds at the law's entry: the machine, the code, the tables' words (any of lw_tbl by 'hts w (by decide +kernel)'), the script of L ints xs at the cell b, what the Statement gives of the start (any of its parts by flat_of_before) -/
def lw_At (p : Program) (s : State) (m : MethodId) (meth : Method) (c : Code) (b L : Nat) (xs : Nat → Int32) : Prop :=
  p.tables.exec = Jvm.exec ∧ c.code = code ∧ meth.sig.returnType = ret ∧ c.maxLocals = 4 ∧ s.vm.findClass R_law = some m.cls ∧ (∀ w ∈ lw_tbl, w.before #[Value.ref b] s = true) ∧ va_X b L xs s s.heap ∧ b < s.heap.size ∧ meth.locks = false ∧ (Jvm.Cond.and given_1 narrow_1).before #[Value.ref b] s = true

/-! what stands at the law's start -/
def lw_fl : List Cond := flatC (Jvm.Cond.and given_1 narrow_1)
def lw_tm (i : Nat) : Term := ([.string "CoinLand$Reader" 98, .string "CoinLand$Reader" 104, .string "CoinLand$Reader" 106, .string "CoinLand$Reader" 108, .string "CoinLand$Reader" 132, .string "CoinLand$Reader" 138, .string "CoinLandModel" 129, .string "CoinLandModel" 135, .string "CoinLandModel" 137, .string "CoinLandModel" 142] : List Term).getD i (.string "" 0)
theorem lm_len : ∀ i : Fin 10, xTl.getD i.1 0 ≤ 6 := by decide +kernel
theorem lm_ex : ∀ i : Fin 10, Cond.exactly (lw_tm i.1) "java/lang/String" ∈ lw_fl := by decide +kernel
theorem lm_co : ∀ i : Fin 10, Cond.eq (.field (lw_tm i.1) "java/lang/String" "coder" "B") (.int 0) ∈ lw_fl := by decide +kernel
theorem lm_ar : ∀ i : Fin 10, Cond.arrayOf (.field (lw_tm i.1) "java/lang/String" "value" "[B") .byte ∈ lw_fl := by decide +kernel
theorem lm_le : ∀ i : Fin 10, Cond.eq (.length (.field (lw_tm i.1) "java/lang/String" "value" "[B")) (.int (Int32.ofNat (xTl.getD i.1 0))) ∈ lw_fl := by decide +kernel
theorem lm_el : ∀ i : Fin 10, ∀ j : Fin 6, j.1 < xTl.getD i.1 0 → Cond.eq (.elem (.field (lw_tm i.1) "java/lang/String" "value" "[B") (.int (Int32.ofNat j.1))) (.int ((xTx.getD i.1 []).getD j.1 0)) ∈ lw_fl := by decide +kernel
theorem lm_ne : ∀ i : Fin 10, ∀ j : Fin 10, i.1 ≠ j.1 → Cond.not (Cond.eq (lw_tm i.1) (lw_tm j.1)) ∈ lw_fl ∨ Cond.not (Cond.eq (lw_tm j.1) (lw_tm i.1)) ∈ lw_fl := by decide +kernel
theorem lm_K : ∀ j : Fin 7, Cond.eq (.elem (.static "CoinLand" "KIND_ABOVE" "[I") (.int (Int32.ofNat j.1))) (.int (xKA.getD j.1 0)) ∈ lw_fl := by decide +kernel
theorem lm_B : ∀ j : Fin 21, Cond.eq (.elem (.static "CoinLand" "BODIES" "[I") (.int (Int32.ofNat j.1))) (.int (xBO.getD j.1 0)) ∈ lw_fl := by decide +kernel
theorem eq_ref {args : Array Value} {s : State} {t t2 : Term} {a : Nat} (h : (Cond.eq t t2).before args s = true) (h1 : t.eval args s none [] s = some (.ref a)) : t2.eval args s none [] s = some (.ref a) := by
  cases hv : t2.eval args s none [] s with
  | none => simp [Cond.before, Cond.holds, Cond.value, hv, h1] at h
  | some w =>
    simp only [Cond.before, Cond.holds, Cond.value, hv, h1] at h
    cases w <;> simp_all
theorem lw_K {s : State} {args : Array Value} (hts : ∀ w ∈ lw_tbl, w.before args s = true) : ∃ (dC : Nat → ClassId) (dI : Nat → Nat → Nat) (dA : Nat → ClassId), va_K (dC, dI) vwCl [(dA 12, .int), (dA 13, .boolean), (dA 14, .object "CoinLand$Clause")] s := by
  have h : ∀ (c : Nat) (q : vw_C), vwCl[c]? = some q → ∃ z : ClassId × (Nat → Nat), u_Kn s q.1 q.2.1 q.2.2 z.1 z.2 := by
    intro c q hq
    match c, hq with
    | 0, hq => cases hq; obtain ⟨a, b, h⟩ := u_known (C := RX0) (T := TX0) (N := 5) (n := 5) hts inX00_ (hts (.instantiable RX0 5) (by decide +kernel)); exact ⟨(a, b), h⟩
    | 1, hq => cases hq; obtain ⟨a, b, h⟩ := u_known (C := RX1) (T := TX1) (N := 4) (n := 4) hts inX10_ (hts (.instantiable RX1 4) (by decide +kernel)); exact ⟨(a, b), h⟩
    | 2, hq => cases hq; obtain ⟨a, b, h⟩ := u_known (C := RX2) (T := TX2) (N := 3) (n := 3) hts inX20_ (hts (.instantiable RX2 3) (by decide +kernel)); exact ⟨(a, b), h⟩
    | 3, hq => cases hq; obtain ⟨a, b, h⟩ := u_known (C := RX3) (T := TX3) (N := 7) (n := 7) hts inX30_ (hts (.instantiable RX3 7) (by decide +kernel)); exact ⟨(a, b), h⟩
    | 4, hq => cases hq; obtain ⟨a, b, h⟩ := u_known (C := RX4) (T := TX4) (N := 2) (n := 2) hts inX40_ (hts (.instantiable RX4 2) (by decide +kernel)); exact ⟨(a, b), h⟩
    | 5, hq => cases hq; obtain ⟨a, b, h⟩ := u_known (C := RX5) (T := TX5) (N := 6) (n := 6) hts inX50_ (hts (.instantiable RX5 6) (by decide +kernel)); exact ⟨(a, b), h⟩
    | 6, hq => cases hq; obtain ⟨a, b, h⟩ := u_known (C := RX6) (T := TX6) (N := 8) (n := 8) hts inX60_ (hts (.instantiable RX6 8) (by decide +kernel)); exact ⟨(a, b), h⟩
    | 7, hq => cases hq; obtain ⟨a, b, h⟩ := u_known (C := RX7) (T := TX7) (N := 3) (n := 3) hts inX70_ (hts (.instantiable RX7 3) (by decide +kernel)); exact ⟨(a, b), h⟩
    | 8, hq => cases hq; obtain ⟨a, b, h⟩ := u_known (C := RX8) (T := TX8) (N := 4) (n := 4) hts inX80_ (hts (.instantiable RX8 4) (by decide +kernel)); exact ⟨(a, b), h⟩
    | 9, hq => cases hq; obtain ⟨a, b, h⟩ := u_known (C := RX9) (T := TX9) (N := 11) (n := 11) hts inX90_ (hts (.instantiable RX9 11) (by decide +kernel)); exact ⟨(a, b), h⟩
    | 10, hq => cases hq; obtain ⟨a, b, h⟩ := u_known (C := RX10) (T := TX10) (N := 8) (n := 8) hts inX100_ (hts (.instantiable RX10 8) (by decide +kernel)); exact ⟨(a, b), h⟩
    | 11, hq => cases hq; obtain ⟨a, b, h⟩ := u_known (C := RX11) (T := TX11) (N := 34) (n := 34) hts inX110_ (hts (.instantiable RX11 34) (by decide +kernel)); exact ⟨(a, b), h⟩
    | k + 12, hq => cases hq
  have h2 : ∀ c : Nat, ∃ z : ClassId × (Nat → Nat), ∀ q : vw_C, vwCl[c]? = some q → u_Kn s q.1 q.2.1 q.2.2 z.1 z.2 := by
    intro c
    cases hq : vwCl[c]? with
    | none => exact ⟨(0, fun _ => 0), fun q h => by cases h⟩
    | some q =>
      obtain ⟨z, hz⟩ := h c q hq
      exact ⟨z, fun q2 h3 => by cases h3; exact hz⟩
  obtain ⟨f, hf⟩ := Classical.axiomOfChoice h2
  obtain ⟨c1, k1, p1, i1, i2, i3⟩ := Cond.arrayClass_spec (type := .int) (hts (.arrayClass .int) (by decide +kernel))
  obtain ⟨c2, k2, p2, z1, z2, z3⟩ := Cond.arrayClass_spec (type := .boolean) (hts (.arrayClass .boolean) (by decide +kernel))
  obtain ⟨p3, c3, k3, o1, -, o3, o4, o5⟩ := Cond.arrayOver_spec (n := "CoinLand$Clause") (hts (.arrayOver (.object "CoinLand$Clause")) (by decide +kernel))
  refine ⟨fun c => (f c).1, fun c => (f c).2, fun k => if k = 12 then c1 else if k = 13 then c2 else c3, fun c q hq => hf c q hq, fun k q hq => ?_⟩
  match k, hq with
  | 0, hq => cases hq; exact ⟨fun n z => ⟨fun k h => (by cases h), k1, i2, p1, i3⟩, i1⟩
  | 1, hq => cases hq; exact ⟨fun n z => ⟨fun k h => (by cases h), k2, z2, p2, z3⟩, z1⟩
  | 2, hq => cases hq; exact ⟨fun n z => ⟨fun k h => (by cases h), k3, o3, p3, o4⟩, ⟨k3, p3, o3, o4, o1, o5⟩⟩
  | k + 3, hq => cases hq
theorem lw_xE {p : Program} {s : State} {m : MethodId} {meth : Method} {c : Code} (l : Launch) {b L : Nat} {xs : Nat → Int32} (C0 : lw_At p s m meth c b L xs) : ∃ g : xG, g.1 = l ∧ g.2.1 = s.heap ∧ g.2.2.2.2.2.1 2 = b ∧ g.2.2.2.2.2.2.1 = L ∧ xE g s := by
  obtain ⟨hx, hb, hr, hml, hown, hts, hX, hbl, hlocks, hgv⟩ := id C0
  have hs : ∀ w ∈ lw_fl, w.before #[Value.ref b] s = true := flat_of_before _ hgv
  have hA : ∀ a : Nat, a < s.heap.size → ¬ (fun _ : Nat => False) a := fun _ _ h => h
  obtain ⟨dC, dI, dA, hK⟩ := lw_K hts
  obtain ⟨tK, hKv, hKT⟩ := va_Tof (tm := .static "CoinLand" "KIND_ABOVE" "[I") (ty := .int) (N := 7) (f := fun j => .int (xKA.getD j 0)) (A := fun _ => False) (by decide) (hs _ (by decide +kernel)) (va_eqt (z := 7) (hs _ (by decide +kernel))) (fun j hj => va_eqt (hs _ (lm_K ⟨j, hj⟩))) hA
  obtain ⟨tB, hBv, hBT⟩ := va_Tof (tm := .static "CoinLand" "BODIES" "[I") (ty := .int) (N := 21) (f := fun j => .int (xBO.getD j 0)) (A := fun _ => False) (by decide) (hs _ (by decide +kernel)) (va_eqt (z := 21) (hs _ (by decide +kernel))) (fun j hj => va_eqt (hs _ (lm_B ⟨j, hj⟩))) hA
  have hKZ : va_Z "CoinLand" "KIND_ABOVE" "[I" (.ref tK) (fun _ => False) s s.heap := va_Zof (hts _ (by decide +kernel)) (hts _ (by decide +kernel)) hKv hA
  have hBZ : va_Z "CoinLand" "BODIES" "[I" (.ref tB) (fun _ => False) s s.heap := va_Zof (hts _ (by decide +kernel)) (hts _ (by decide +kernel)) hBv hA
  have hCZ : va_Z "java/lang/String" "COMPACT_STRINGS" "Z" (.int 1) (fun _ => False) s s.heap := va_Zof (hts _ (by decide +kernel)) (hts _ (by decide +kernel)) (va_eqi (hs _ (by decide +kernel))) hA
  have hFq : va_Zq "jdk/internal/util/Preconditions" "SIOOBE_FORMATTER" "Ljava/util/function/BiFunction;" (fun _ => False) s s.heap := va_Zqof (hts _ (by decide +kernel)) (hts _ (by decide +kernel)) (hs _ (by decide +kernel)) hA
  obtain ⟨fm, hFZ⟩ : ∃ fm : Nat, va_Z "jdk/internal/util/Preconditions" "SIOOBE_FORMATTER" "Ljava/util/function/BiFunction;" .null (fun _ => False) s s.heap ∨ va_Z "jdk/internal/util/Preconditions" "SIOOBE_FORMATTER" "Ljava/util/function/BiFunction;" (.ref fm) (fun _ => False) s s.heap := by
    rcases hFq with h | ⟨t, h⟩
    · exact ⟨0, Or.inl h⟩
    · exact ⟨t, Or.inr h⟩
  obtain ⟨adK, adV, hS, hev⟩ := vk_Sof (args := #[Value.ref b]) (s := s) (N := 10) (tm := lw_tm) (len := xTl) (byt := xTx) (A := fun _ => False) (fun i hi => by have h6 : xTl.getD i 0 ≤ 6 := lm_len ⟨i, hi⟩; omega) (fun i hi => hs _ (lm_ex ⟨i, hi⟩)) (fun i hi => hs _ (lm_co ⟨i, hi⟩)) (fun i hi => hs _ (lm_ar ⟨i, hi⟩)) (fun i hi => hs _ (lm_le ⟨i, hi⟩)) (fun i hi j hj => hs _ (lm_el ⟨i, hi⟩ ⟨j, Nat.lt_of_lt_of_le hj (lm_len ⟨i, hi⟩)⟩ hj)) (fun i j hi hj hij => (lm_ne ⟨i, hi⟩ ⟨j, hj⟩ hij).imp (fun h => hs _ h) (fun h => hs _ h)) hA
  refine ⟨(l, s.heap, dC, dI, dA, fun q => if q = 0 then tK else if q = 1 then tB else if q = 2 then b else if q = 3 then fm else if q < 24 then adK (q - 8) else adV (q - 24), L, xs), rfl, rfl, rfl, rfl, ?_⟩
  have e1 : ∀ i, i < 10 → (if 8 + i = 0 then tK else if 8 + i = 1 then tB else if 8 + i = 2 then b else if 8 + i = 3 then fm else if 8 + i < 24 then adK (8 + i - 8) else adV (8 + i - 24)) = adK i := fun i hi => by
    rw [if_neg (by omega), if_neg (by omega), if_neg (by omega), if_neg (by omega), if_pos (by omega), Nat.add_sub_cancel_left]
  have e2 : ∀ i, i < 10 → (if 24 + i = 0 then tK else if 24 + i = 1 then tB else if 24 + i = 2 then b else if 24 + i = 3 then fm else if 24 + i < 24 then adK (24 + i - 8) else adV (24 + i - 24)) = adV i := fun i hi => by
    rw [if_neg (by omega), if_neg (by omega), if_neg (by omega), if_neg (by omega), if_neg (by omega), Nat.add_sub_cancel_left]
  obtain ⟨scr, x1, x2, x3, x4, x5⟩ := hX
  refine ⟨hK, hKZ, hKT, hBZ, hBT, ⟨scr, x1, x2, x3, Nat.le_of_eq x4.symm, congrArg Nat.toInt32 x4, x5, fun h => h⟩, hCZ, ⟨⟨fun i hi => ?_, fun i j hi hj e => ?_⟩, hFZ⟩, ⟨vk_R.of (A := #[Value.ref b]) (hts (.stringRef "CoinLand$Reader" 98 "top") (by decide +kernel)) (hev 0 (by decide)), vk_R.of (A := #[Value.ref b]) (hts (.stringRef "CoinLand$Reader" 104 "cheat") (by decide +kernel)) (hev 1 (by decide)), vk_R.of (A := #[Value.ref b]) (hts (.stringRef "CoinLand$Reader" 106 "dear") (by decide +kernel)) (hev 2 (by decide)), vk_R.of (A := #[Value.ref b]) (hts (.stringRef "CoinLand$Reader" 108 "mean") (by decide +kernel)) (hev 3 (by decide)), vk_R.of (A := #[Value.ref b]) (hts (.stringRef "CoinLand$Reader" 132 "ckvbdp") (by decide +kernel)) (hev 4 (by decide)), vk_R.of (A := #[Value.ref b]) (hts (.stringRef "CoinLand$Reader" 138 "<=>") (by decide +kernel)) (hev 5 (by decide)), vk_R.of (A := #[Value.ref b]) (hts (.stringRef "CoinLandModel" 111 "ckvbdp") (by decide +kernel)) (eq_ref (hs (Cond.eq (.string "CoinLand$Reader" 132) (.string "CoinLandModel" 111)) (by decide +kernel)) (hev 4 (by decide))), vk_R.of (A := #[Value.ref b]) (hts (.stringRef "CoinLandModel" 117 "<=>") (by decide +kernel)) (eq_ref (hs (Cond.eq (.string "CoinLand$Reader" 138) (.string "CoinLandModel" 117)) (by decide +kernel)) (hev 5 (by decide))), vk_R.of (A := #[Value.ref b]) (hts (.stringRef "CoinLandModel" 129 "top ") (by decide +kernel)) (hev 6 (by decide)), vk_R.of (A := #[Value.ref b]) (hts (.stringRef "CoinLandModel" 135 "cheat ") (by decide +kernel)) (hev 7 (by decide)), vk_R.of (A := #[Value.ref b]) (hts (.stringRef "CoinLandModel" 137 "dear ") (by decide +kernel)) (hev 8 (by decide)), vk_R.of (A := #[Value.ref b]) (hts (.stringRef "CoinLandModel" 142 "mean ") (by decide +kernel)) (hev 9 (by decide))⟩, va_AO.of (hts (.arrayOver (.object "CoinLand$Clause")) (by decide +kernel)), fun w hw => va_tabs (xN_on hw) rfl (hts w (List.mem_filter.mp hw).1)⟩
  · have h9 := hS.1 i hi
    rw [← e1 i hi, ← e2 i hi] at h9
    exact h9
  · refine hS.2 i j hi hj ?_
    rw [← e1 i hi, ← e1 j hj]
    exact e
/-- the law from its first instruction on -/
theorem lw_body {g : xG} {nm : String} {Q : Option Value → xS → Prop} (hL : g.2.2.2.2.2.2.1 ≤ 3072) (hQ : ∀ σ, Q (some (.int 1)) σ) : xX g (Y_law nm) 30 11344 536770 Q 0 [some (.ref 2), none, none, none] [] (64, fun _ => (15, 0), fun _ _ => none, fun _ _ => 0) := by
  refine y_new (k2 := 11343) (n2 := 536762) (nx1 := 65) dL_law_0 N_Law_7 rfl (Nat.le_of_ble_eq_true rfl) (Nat.le_of_ble_eq_true rfl) ?_
  refine x_dup dL_law_3 rfl ?_
  refine x_callI (k2 := 11281) (n2 := 535706) dL_law_4 LI_Law_9 (m_C_new rfl) rfl rfl (Nat.le_of_ble_eq_true rfl) (Nat.le_of_ble_eq_true rfl) (Nat.le_of_ble_eq_true rfl) (Nat.le_of_ble_eq_true rfl) ?_
  rintro _ _ ⟨rfl, rfl⟩
  refine x_astore_n dL_law_7 (Nat.le_of_ble_eq_true rfl) ?_
  try simp only [xst, xst2, xclr, xset, xwide]
  refine y_new (k2 := 11280) (n2 := 535672) (nx1 := 128) dL_law_8 N_Law_10 rfl (Nat.le_of_ble_eq_true rfl) (Nat.le_of_ble_eq_true rfl) ?_
  refine x_dup dL_law_11 rfl ?_
  refine x_callI (k2 := 11264) (n2 := 533504) dL_law_12 LI_Law_12 (m_M_new rfl) rfl rfl (Nat.le_of_ble_eq_true rfl) (Nat.le_of_ble_eq_true rfl) (Nat.le_of_ble_eq_true rfl) (Nat.le_of_ble_eq_true rfl) ?_
  rintro _ _ ⟨rfl, rfl⟩
  refine x_astore_n dL_law_15 (Nat.le_of_ble_eq_true rfl) ?_
  try simp only [xst, xst2, xclr, xset, xwide]
  refine x_iconst (v := 0) dL_law_16 (by decide) ?_
  refine x_istore_n dL_law_17 (Nat.le_of_ble_eq_true rfl) ?_
  try simp only [xst, xst2, xclr, xset, xwide]
  refine lw_loop hL hQ 512 0 144 (stS (fun _ => (15, 0))) (stQ (fun _ _ => none)) (stI (fun _ _ => 0)) ?_ (Nat.zero_le _) (by omega)
  exact ⟨Nat.le_refl _, st_fx, by rw [st_s]; exact st_RI, by rw [st_s]; exact st_WN, st_KE, st_els.1.trans st_els.2.1.symm, fun z => absurd st_els.2.1 z, 0, Nat.zero_le _, st_els.2.2.1, st_els.2.2.2, fun j hj => absurd hj (Nat.not_lt_zero j)⟩
