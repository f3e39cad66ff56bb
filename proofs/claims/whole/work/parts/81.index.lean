/-! a sign looked for in a literal -/
theorem x_i2b {g : xG} {y : xY} {d k n : Nat} {Q : Option Value → xS → Prop} {pc : Nat} {ls : List (Option Value)} {st : List Value} {σ : xS} {x : Int32} (hd : decode y.2.1 pc = .ok (.i2b, 1)) (kk : xX g y d k n Q (pc + 1) ls (.int x.toInt8.toInt32 :: st) σ) : xX g y d k n Q pc ls (.int x :: st) σ := by
  intro p R e s m args below meth c F Qf hr lsA H locs cells slots hl hH hlo hc hs
  have hx := F.1; have hb := F.2.1
  exact lv_i2b hx hb hd rfl (kk p R e s m args below meth c F Qf hr lsA H locs cells slots hl hH hlo hc hs)
/-- where sign c is in literal i, from k on -/
def ixL (i : Nat) (c : Int32) : Nat → Nat → Int32
  | 0, _ => -1
  | m + 1, k => if sg i k = c then nI k else ixL i c m (k + 1)
theorem b8_f : ∀ z : Fin 128, (nI z.1).toInt8.toInt32 = nI z.1 := by decide +kernel
theorem b8_e {c : Int32} (hc : 0 ≤ c ∧ c ≤ 127) : c.toInt8.toInt32 = c := by
  obtain ⟨z, hz, rfl⟩ := i_2 (n := 128) (by decide) ⟨hc.1, Int32.lt_of_le_of_lt hc.2 (by decide)⟩
  exact b8_f ⟨z, hz⟩
theorem tl_0 : ∀ i : Fin 10, 0 < xTl.getD i.1 0 := by decide +kernel
theorem tl_6b : ∀ i : Fin 10, xTl.getD i.1 0 ≤ 6 := by decide +kernel
set_option maxHeartbeats 4000000 in
set_option maxRecDepth 100000 in
theorem j_canE {g : xG} {nx : Nat} {sh : Nat → Nat × Nat} {P : Nat → Nat → Option Nat} {I : Nat → Nat → Int32} {c : Int32} (hc : 0 ≤ c ∧ c ≤ 127) : xMet g Y_J_1_canEncode_9a6ad 0 0 0 [.int c] (nx, sh, P, I) (fun r σ => r = some (.int 1) ∧ σ = (nx, sh, P, I)) := by
  refine xMet.of [some (.int c)] (by decide +kernel) (Nat.le_of_ble_eq_true rfl) rfl ?_
  refine x_iload_n dJ1_canEncode_9a6ad_0 rfl ?_
  refine x_if_lt (tgt := 15) dJ1_canEncode_9a6ad_1 rfl (fun c1 => ?_) (fun c1 => ?_)
  · exact absurd c1 (Int32.not_lt.mpr hc.1)
  · refine x_iload_n dJ1_canEncode_9a6ad_4 rfl ?_
    refine x_sipush (v := 255) dJ1_canEncode_9a6ad_5 (by decide) ?_
    refine x_icmp_gt (tgt := 15) dJ1_canEncode_9a6ad_8 rfl (fun c8 => ?_) (fun c8 => ?_)
    · exact absurd c8 (Int32.not_lt.mpr (Int32.le_trans hc.2 (by decide)))
    · refine x_iconst (v := 1) dJ1_canEncode_9a6ad_11 (by decide) ?_
      refine x_goto (tgt := 16) dJ1_canEncode_9a6ad_12 rfl ?_
      refine x_ireturn dJ1_canEncode_9a6ad_16 rfl rfl ?_
      exact ⟨rfl, rfl⟩

set_option maxHeartbeats 4000000 in
set_option maxRecDepth 100000 in
theorem j_ixc {g : xG} {nx : Nat} {sh : Nat → Nat × Nat} {P : Nat → Nat → Option Nat} {I : Nat → Nat → Int32} {i : Nat} {c : Int32} (hi : i < 10) (hc : 0 ≤ c ∧ c ≤ 127) : xMet g Y_J_1_indexOfChar_4cfef 0 0 0 [.ref (24 + i), .int c, .int (nI 0), .int (nI (xTl.getD i 0))] (nx, sh, P, I) (fun r σ => r = some (.int (ixL i c (xTl.getD i 0) 0)) ∧ σ = (nx, sh, P, I)) := by
  refine xMet.of [some (.ref (24 + i)), some (.int c), some (.int (nI 0)), some (.int (nI (xTl.getD i 0))), none, none] (by decide +kernel) (Nat.le_of_ble_eq_true rfl) rfl ?_
  have hl0 : 0 < xTl.getD i 0 := tl_0 ⟨i, hi⟩
  have hl6 : xTl.getD i 0 ≤ 6 := tl_6b ⟨i, hi⟩
  refine x_iload_n dJ1_indexOfChar_4cfef_0 rfl ?_
  refine x_i2b dJ1_indexOfChar_4cfef_1 ?_
  rw [b8_e hc]
  refine x_istore dJ1_indexOfChar_4cfef_2 (Nat.le_of_ble_eq_true rfl) ?_
  try simp only [xst, xst2, xclr, xset, xwide]
  refine x_iload_n dJ1_indexOfChar_4cfef_4 rfl ?_
  refine x_istore dJ1_indexOfChar_4cfef_5 (Nat.le_of_ble_eq_true rfl) ?_
  try simp only [xst, xst2, xclr, xset, xwide]
  have K7 : ∀ (fuel : Nat) (k : Nat) (hk : k ≤ xTl.getD i 0) (ha : ixL i c (xTl.getD i 0 - k) k = ixL i c (xTl.getD i 0) 0), xTl.getD i 0 - k < fuel → xX g Y_J_1_indexOfChar_4cfef 0 0 0 (fun r σ => r = some (.int (ixL i c (xTl.getD i 0) 0)) ∧ σ = (nx, sh, P, I)) 7 [some (.ref (24 + i)), some (.int c), some (.int (nI 0)), some (.int (nI (xTl.getD i 0))), some (.int c), some (.int (nI k))] [] (nx, sh, P, I) := by
    intro fuel
    induction fuel with
    | zero => intro k hk ha hm; exact absurd hm (Nat.not_lt_zero _)
    | succ fuel ih7 =>
      intro k hk ha hm
      refine x_iload dJ1_indexOfChar_4cfef_7 rfl ?_
      refine x_iload_n dJ1_indexOfChar_4cfef_9 rfl ?_
      refine x_icmp_ge (tgt := 31) dJ1_indexOfChar_4cfef_10 rfl (fun c10 => ?_) (fun c10 => ?_)
      · have hie : k = xTl.getD i 0 := cge_t (by omega) hk c10
        refine x_iconst (v := (-1)) dJ1_indexOfChar_4cfef_31 (by decide) ?_
        refine x_ireturn dJ1_indexOfChar_4cfef_32 rfl nb_int ?_
        exact ⟨by rw [← ha, hie, Nat.sub_self]; rfl, rfl⟩
      · have him : k < xTl.getD i 0 := cge_f (by omega) hk c10
        have hun : ixL i c (xTl.getD i 0 - k) k = if sg i k = c then nI k else ixL i c (xTl.getD i 0 - (k + 1)) (k + 1) := by rw [show xTl.getD i 0 - k = (xTl.getD i 0 - (k + 1)) + 1 by omega]; rfl
        refine x_aload_n dJ1_indexOfChar_4cfef_13 rfl ?_
        refine x_iload dJ1_indexOfChar_4cfef_14 rfl ?_
        refine x_obaload dJ1_indexOfChar_4cfef_16 (xOa_T hi) (vi (j := k) rfl him (by omega)) ?_
        rw [nI_clamp (by omega), show (xTx.getD i []).getD k 0 = sg i k from rfl]
        refine x_iload dJ1_indexOfChar_4cfef_17 rfl ?_
        refine x_icmp_ne (tgt := 25) dJ1_indexOfChar_4cfef_19 rfl (fun c19 => ?_) (fun c19 => ?_)
        · refine x_iinc (v := (nI (k + 1))) dJ1_indexOfChar_4cfef_25 rfl (nI_1 _) (Nat.le_of_ble_eq_true rfl) ?_
          try simp only [xst, xst2, xclr, xset, xwide]
          refine x_goto (tgt := 7) dJ1_indexOfChar_4cfef_28 rfl ?_
          exact ih7 (k + 1) (by omega) (by rw [← ha, hun, if_neg c19]) (by omega)
        · refine x_iload dJ1_indexOfChar_4cfef_22 rfl ?_
          refine x_ireturn dJ1_indexOfChar_4cfef_24 rfl nb_int ?_
          exact ⟨by rw [← ha, hun, if_pos c19], rfl⟩
  exact K7 _ 0 (Nat.zero_le _) (by rw [Nat.sub_zero]) (Nat.lt_succ_self _)

set_option maxHeartbeats 4000000 in
set_option maxRecDepth 100000 in
theorem j_ix1 {g : xG} {nx : Nat} {sh : Nat → Nat × Nat} {P : Nat → Nat → Option Nat} {I : Nat → Nat → Int32} {i : Nat} {c : Int32} (hi : i < 10) (hc : 0 ≤ c ∧ c ≤ 127) : xMet g Y_J_1_indexOf_4cfef 1 0 0 [.ref (24 + i), .int c, .int (nI 0), .int (nI (xTl.getD i 0))] (nx, sh, P, I) (fun r σ => r = some (.int (ixL i c (xTl.getD i 0) 0)) ∧ σ = (nx, sh, P, I)) := by
  refine xMet.of [some (.ref (24 + i)), some (.int c), some (.int (nI 0)), some (.int (nI (xTl.getD i 0)))] (by decide +kernel) (Nat.le_of_ble_eq_true rfl) rfl ?_
  have hl0 : 0 < xTl.getD i 0 := tl_0 ⟨i, hi⟩
  have hl6 : xTl.getD i 0 ≤ 6 := tl_6b ⟨i, hi⟩
  refine x_iload_n dJ1_indexOf_4cfef_0 rfl ?_
  refine x_callS (k2 := 0) (n2 := 0) dJ1_indexOf_4cfef_1 LS_J1_88 (j_canE hc) rfl rfl (Nat.le_of_ble_eq_true rfl) (Nat.le_of_ble_eq_true rfl) (Nat.le_of_ble_eq_true rfl) (Nat.le_of_ble_eq_true rfl) ?_
  rintro _ _ ⟨rfl, rfl⟩
  refine x_if_ne (tgt := 9) dJ1_indexOf_4cfef_4 rfl (fun c4 => ?_) (fun c4 => ?_)
  · skip
    refine x_iload_n dJ1_indexOf_4cfef_9 rfl ?_
    refine x_iconst (v := 0) dJ1_indexOf_4cfef_10 (by decide) ?_
    refine x_callS (k2 := 0) (n2 := 0) dJ1_indexOf_4cfef_11 LS_J1_92 m_max rfl rfl (Nat.le_of_ble_eq_true rfl) (Nat.le_of_ble_eq_true rfl) (Nat.le_of_ble_eq_true rfl) (Nat.le_of_ble_eq_true rfl) ?_
    rintro _ _ ⟨rfl, rfl⟩
    rw [show (if nI 0 ≤ 0 then (0 : Int32) else nI 0) = nI 0 from rfl]
    refine x_istore_n dJ1_indexOf_4cfef_14 (Nat.le_of_ble_eq_true rfl) ?_
    try simp only [xst, xst2, xclr, xset, xwide]
    refine x_iload_n dJ1_indexOf_4cfef_15 rfl ?_
    refine x_aload_n dJ1_indexOf_4cfef_16 rfl ?_
    refine x_oalen dJ1_indexOf_4cfef_17 (xOa_T hi) ?_
    refine x_callS (k2 := 0) (n2 := 0) dJ1_indexOf_4cfef_18 LS_J1_38 m_min rfl rfl (Nat.le_of_ble_eq_true rfl) (Nat.le_of_ble_eq_true rfl) (Nat.le_of_ble_eq_true rfl) (Nat.le_of_ble_eq_true rfl) ?_
    rintro _ _ ⟨rfl, rfl⟩
    rw [ite_self]
    refine x_istore_n dJ1_indexOf_4cfef_21 (Nat.le_of_ble_eq_true rfl) ?_
    try simp only [xst, xst2, xclr, xset, xwide]
    refine x_iload_n dJ1_indexOf_4cfef_22 rfl ?_
    refine x_iload_n dJ1_indexOf_4cfef_23 rfl ?_
    refine x_icmp_lt (tgt := 29) dJ1_indexOf_4cfef_24 rfl (fun c24 => ?_) (fun c24 => ?_)
    · skip
      refine x_aload_n dJ1_indexOf_4cfef_29 rfl ?_
      refine x_iload_n dJ1_indexOf_4cfef_30 rfl ?_
      refine x_iload_n dJ1_indexOf_4cfef_31 rfl ?_
      refine x_iload_n dJ1_indexOf_4cfef_32 rfl ?_
      refine x_callS (k2 := 0) (n2 := 0) dJ1_indexOf_4cfef_33 LS_J1_95 (j_ixc hi hc) rfl rfl (Nat.le_of_ble_eq_true rfl) (Nat.le_of_ble_eq_true rfl) (Nat.le_of_ble_eq_true rfl) (Nat.le_of_ble_eq_true rfl) ?_
      rintro _ _ ⟨rfl, rfl⟩
      refine x_ireturn dJ1_indexOf_4cfef_36 rfl nb_int ?_
      exact ⟨rfl, rfl⟩
    · exact absurd (nI_lt hl0 (by omega)) c24
  · exact absurd c4 (by decide)

set_option maxHeartbeats 4000000 in
set_option maxRecDepth 100000 in
theorem j_ix0 {g : xG} {nx : Nat} {sh : Nat → Nat × Nat} {P : Nat → Nat → Option Nat} {I : Nat → Nat → Int32} {i : Nat} {c : Int32} (hi : i < 10) (hc : 0 ≤ c ∧ c ≤ 127) : xMet g Y_J_0_indexOf_7cf53 2 0 0 [.ref (8 + i), .int c, .int (nI 0)] (nx, sh, P, I) (fun r σ => r = some (.int (ixL i c (xTl.getD i 0) 0)) ∧ σ = (nx, sh, P, I)) := by
  refine xMet.of [some (.ref (8 + i)), some (.int c), some (.int (nI 0))] (by decide +kernel) (Nat.le_of_ble_eq_true rfl) rfl ?_
  refine x_aload_n dJ0_indexOf_7cf53_0 rfl ?_
  refine x_callVs (k2 := 0) (n2 := 0) dJ0_indexOf_7cf53_1 LV_J0_492 (j_isLatin1 hi) rfl rfl (xOs_o hi) rfl (Nat.le_of_ble_eq_true rfl) (Nat.le_of_ble_eq_true rfl) (Nat.le_of_ble_eq_true rfl) (Nat.le_of_ble_eq_true rfl) ?_
  rintro _ _ ⟨rfl, rfl⟩
  refine x_if_eq (tgt := 23) dJ0_indexOf_7cf53_4 rfl (fun c4 => ?_) (fun c4 => ?_)
  · exact absurd c4 (by decide)
  · skip
    refine x_aload_n dJ0_indexOf_7cf53_7 rfl ?_
    refine x_sget (v := .ref (24 + i)) dJ0_indexOf_7cf53_8 S_J0_9 (xOs_v hi) ?_
    refine x_iload_n dJ0_indexOf_7cf53_11 rfl ?_
    refine x_iload_n dJ0_indexOf_7cf53_12 rfl ?_
    refine x_aload_n dJ0_indexOf_7cf53_13 rfl ?_
    refine x_callVs (k2 := 0) (n2 := 0) dJ0_indexOf_7cf53_14 LV_J0_505 (j_length hi) rfl rfl (xOs_o hi) rfl (Nat.le_of_ble_eq_true rfl) (Nat.le_of_ble_eq_true rfl) (Nat.le_of_ble_eq_true rfl) (Nat.le_of_ble_eq_true rfl) ?_
    rintro _ _ ⟨rfl, rfl⟩
    refine x_callS (k2 := 0) (n2 := 0) dJ0_indexOf_7cf53_17 LS_J0_637 (j_ix1 hi hc) rfl rfl (Nat.le_of_ble_eq_true rfl) (Nat.le_of_ble_eq_true rfl) (Nat.le_of_ble_eq_true rfl) (Nat.le_of_ble_eq_true rfl) ?_
    rintro _ _ ⟨rfl, rfl⟩
    refine x_goto (tgt := 36) dJ0_indexOf_7cf53_20 rfl ?_
    refine x_ireturn dJ0_indexOf_7cf53_36 rfl nb_int ?_
    exact ⟨rfl, rfl⟩

set_option maxHeartbeats 4000000 in
set_option maxRecDepth 100000 in
theorem j_ix {g : xG} {nx : Nat} {sh : Nat → Nat × Nat} {P : Nat → Nat → Option Nat} {I : Nat → Nat → Int32} {i : Nat} {c : Int32} (hi : i < 10) (hc : 0 ≤ c ∧ c ≤ 127) : xMet g Y_J_0_indexOf_0f7a4 3 0 0 [.ref (8 + i), .int c] (nx, sh, P, I) (fun r σ => r = some (.int (ixL i c (xTl.getD i 0) 0)) ∧ σ = (nx, sh, P, I)) := by
  refine xMet.of [some (.ref (8 + i)), some (.int c)] (by decide +kernel) (Nat.le_of_ble_eq_true rfl) rfl ?_
  refine x_aload_n dJ0_indexOf_0f7a4_0 rfl ?_
  refine x_iload_n dJ0_indexOf_0f7a4_1 rfl ?_
  refine x_iconst (v := 0) dJ0_indexOf_0f7a4_2 (by decide) ?_
  refine x_callVs (k2 := 0) (n2 := 0) dJ0_indexOf_0f7a4_3 LV_J0_633 (j_ix0 hi hc) rfl rfl (xOs_o hi) rfl (Nat.le_of_ble_eq_true rfl) (Nat.le_of_ble_eq_true rfl) (Nat.le_of_ble_eq_true rfl) (Nat.le_of_ble_eq_true rfl) ?_
  rintro _ _ ⟨rfl, rfl⟩
  refine x_ireturn dJ0_indexOf_0f7a4_6 rfl nb_int ?_
  exact ⟨rfl, rfl⟩
