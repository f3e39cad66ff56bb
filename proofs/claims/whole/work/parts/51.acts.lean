/-! the class: acts -/
def kaS (x : Int32) : Int32 := if 0 ≤ x ∧ x < 7 then xKA.getD x.toNatClampNeg 0 else -1
/-- the body that a kind has for an act, m kinds looked at -/
def bdS : Nat → Int32 → Int32 → Int32
  | 0, _, _ => 0
  | m + 1, z, a => if 0 ≤ z ∧ 0 ≤ z * 3 + a ∧ z * 3 + a < 21 ∧ ¬ xBO.getD (z * 3 + a).toNatClampNeg 0 = 0 then xBO.getD (z * 3 + a).toNatClampNeg 0 else bdS m (kaS z) a
theorem bdS_s {m : Nat} {z a : Int32} : bdS (m + 1) z a = if 0 ≤ z ∧ 0 ≤ z * 3 + a ∧ z * 3 + a < 21 ∧ ¬ xBO.getD (z * 3 + a).toNatClampNeg 0 = 0 then xBO.getD (z * 3 + a).toNatClampNeg 0 else bdS m (kaS z) a := rfl
theorem bd_0 : ∀ f : Fin 7, bdS 7 (nI f.1) 0 = if undr (nI f.1) 1 = true then 11 else if nI f.1 = 5 then 51 else 1 := by decide +kernel
theorem bd_1 : ∀ f : Fin 7, bdS 7 (nI f.1) 1 = if undr (nI f.1) 2 = true then 21 else if nI f.1 = 6 then 61 else 2 := by decide +kernel
theorem bd_2 : ∀ f : Fin 7, bdS 7 (nI f.1) 2 = if undr (nI f.1) 3 = true then 31 else if nI f.1 = 4 then 41 else 3 := by decide +kernel
/-- a coin taken for a kind: m kinds looked at -/
def asS : Nat → Int32 → Int32 → Bool
  | 0, _, _ => false
  | m + 1, z, k => if z = k then true else asS m (kaS z) k
theorem asS_s {m : Nat} {z k : Int32} : asS (m + 1) z k = if z = k then true else asS m (kaS z) k := rfl
theorem as_u : ∀ f k : Fin 7, asS 7 (nI f.1) (nI k.1) = undr (nI f.1) (nI k.1) := by decide +kernel
set_option maxHeartbeats 4000000 in
set_option maxRecDepth 100000 in
theorem m_C_kindAbove {g : xG} {nx : Nat} {sh : Nat → Nat × Nat} {P : Nat → Nat → Option Nat} {I : Nat → Nat → Int32} {x : Int32} : xMet g Y_C_kindAbove 0 0 0 [.int x] (nx, sh, P, I) (fun r σ => r = some (.int (kaS x)) ∧ σ = (nx, sh, P, I)) := by
  refine xMet.of [some (.int x)] (by decide +kernel) (Nat.le_of_ble_eq_true rfl) rfl ?_
  refine x_iload_n dX10_kindAbove_0 rfl ?_
  refine x_if_lt (tgt := 20) dX10_kindAbove_1 rfl (fun c1 => ?_) (fun c1 => ?_)
  · refine x_iconst (v := (-1)) dX10_kindAbove_20 (by decide) ?_
    refine x_ireturn dX10_kindAbove_21 rfl nb_int ?_
    first
    | (have h9 := Int32.not_le.mp c9; exact ⟨by unfold kaS; rw [if_pos ⟨Int32.not_lt.mp c1, h9⟩], rfl⟩)
    | (have h9 := Int32.not_le.mpr c1; exact ⟨by unfold kaS; rw [if_neg (fun y => h9 y.1)], rfl⟩)
    | (have h9 := Int32.not_lt.mpr c9; exact ⟨by unfold kaS; rw [if_neg (fun y => h9 y.2)], rfl⟩)
  · refine x_iload_n dX10_kindAbove_4 rfl ?_
    refine x_getsK dX10_kindAbove_5 S_C_244 ?_
    refine x_oalen dX10_kindAbove_8 xOa_K ?_
    refine x_icmp_ge (tgt := 20) dX10_kindAbove_9 rfl (fun c9 => ?_) (fun c9 => ?_)
    · refine x_iconst (v := (-1)) dX10_kindAbove_20 (by decide) ?_
      refine x_ireturn dX10_kindAbove_21 rfl nb_int ?_
      first
      | (have h9 := Int32.not_le.mp c9; exact ⟨by unfold kaS; rw [if_pos ⟨Int32.not_lt.mp c1, h9⟩], rfl⟩)
      | (have h9 := Int32.not_le.mpr c1; exact ⟨by unfold kaS; rw [if_neg (fun y => h9 y.1)], rfl⟩)
      | (have h9 := Int32.not_lt.mpr c9; exact ⟨by unfold kaS; rw [if_neg (fun y => h9 y.2)], rfl⟩)
    · refine x_getsK dX10_kindAbove_12 S_C_244 ?_
      refine x_iload_n dX10_kindAbove_15 rfl ?_
      refine x_oaload dX10_kindAbove_16 xOa_K (vin (by decide) c1 c9) ?_
      refine x_goto (tgt := 21) dX10_kindAbove_17 rfl ?_
      refine x_ireturn dX10_kindAbove_21 rfl nb_int ?_
      first
      | (have h9 := Int32.not_le.mp c9; exact ⟨by unfold kaS; rw [if_pos ⟨Int32.not_lt.mp c1, h9⟩], rfl⟩)
      | (have h9 := Int32.not_le.mpr c1; exact ⟨by unfold kaS; rw [if_neg (fun y => h9 y.1)], rfl⟩)
      | (have h9 := Int32.not_lt.mpr c9; exact ⟨by unfold kaS; rw [if_neg (fun y => h9 y.2)], rfl⟩)

set_option maxHeartbeats 4000000 in
set_option maxRecDepth 100000 in
theorem m_Acts_bodyOf {g : xG} {nx : Nat} {sh : Nat → Nat × Nat} {P : Nat → Nat → Option Nat} {I : Nat → Nat → Int32} {x a : Int32} : xMet g Y_Acts_bodyOf 1 0 0 [.int x, .int a] (nx, sh, P, I) (fun r σ => r = some (.int (bdS 7 x a)) ∧ σ = (nx, sh, P, I)) := by
  refine xMet.of [some (.int x), some (.int a), none, none, none] (by decide +kernel) (Nat.le_of_ble_eq_true rfl) rfl ?_
  refine x_iload_n dX0_bodyOf_0 rfl ?_
  refine x_istore_n dX0_bodyOf_1 (Nat.le_of_ble_eq_true rfl) ?_
  try simp only [xst, xst2, xclr, xset, xwide]
  refine x_iconst (v := 0) dX0_bodyOf_2 (by decide) ?_
  refine x_istore_n dX0_bodyOf_3 (Nat.le_of_ble_eq_true rfl) ?_
  try simp only [xst, xst2, xclr, xset, xwide]
  have K4 : ∀ (fuel : Nat) (i : Nat) (z : Int32) (v4 : Option Value) (hi : i ≤ 7) (hz : bdS (7 - i) z a = bdS 7 x a), 7 - i < fuel → xX g Y_Acts_bodyOf 1 0 0 (fun r σ => r = some (.int (bdS 7 x a)) ∧ σ = (nx, sh, P, I)) 4 [some (.int x), some (.int a), some (.int z), some (.int (nI i)), v4] [] (nx, sh, P, I) := by
    intro fuel
    induction fuel with
    | zero => intro i z v4 hi hz hm; exact absurd hm (Nat.not_lt_zero _)
    | succ fuel ih4 =>
      intro i z v4 hi hz hm
      refine x_iload_n dX0_bodyOf_4 rfl ?_
      refine x_getsK dX0_bodyOf_5 S_Acts_40 ?_
      refine x_oalen dX0_bodyOf_8 xOa_K ?_
      refine x_icmp_ge (tgt := 64) dX0_bodyOf_9 rfl (fun c9 => ?_) (fun c9 => ?_)
      · have hie : i = 7 := cge_t (by decide) hi c9
        refine x_iconst (v := 0) dX0_bodyOf_64 (by decide) ?_
        refine x_ireturn dX0_bodyOf_65 rfl nb_int ?_
        rw [hie] at hz
        exact ⟨by rw [← hz]; rfl, rfl⟩
      · have him : i < 7 := cge_f (by decide) hi c9
        have hun : bdS (7 - i) z a = if 0 ≤ z ∧ 0 ≤ z * 3 + a ∧ z * 3 + a < 21 ∧ ¬ xBO.getD (z * 3 + a).toNatClampNeg 0 = 0 then xBO.getD (z * 3 + a).toNatClampNeg 0 else bdS (7 - (i + 1)) (kaS z) a := by rw [show 7 - i = (7 - (i + 1)) + 1 by omega, bdS_s]
        refine x_iload_n dX0_bodyOf_12 rfl ?_
        refine x_iconst (v := 3) dX0_bodyOf_13 (by decide) ?_
        refine x_imul dX0_bodyOf_14 ?_
        refine x_iload_n dX0_bodyOf_15 rfl ?_
        refine x_iadd dX0_bodyOf_16 ?_
        refine x_istore dX0_bodyOf_17 (Nat.le_of_ble_eq_true rfl) ?_
        try simp only [xst, xst2, xclr, xset, xwide]
        refine x_iload_n dX0_bodyOf_19 rfl ?_
        refine x_if_lt (tgt := 53) dX0_bodyOf_20 rfl (fun c20 => ?_) (fun c20 => ?_)
        · refine x_iload_n dX0_bodyOf_53 rfl ?_
          refine x_callSN (k2 := 0) (n2 := 0) dX0_bodyOf_54 LSN_Acts_46 m_C_kindAbove rfl rfl (Nat.le_of_ble_eq_true rfl) (Nat.le_of_ble_eq_true rfl) (Nat.le_of_ble_eq_true rfl) (Nat.le_of_ble_eq_true rfl) ?_
          rintro _ _ ⟨rfl, rfl⟩
          refine x_istore_n dX0_bodyOf_57 (Nat.le_of_ble_eq_true rfl) ?_
          try simp only [xst, xst2, xclr, xset, xwide]
          refine x_iinc (v := (nI (i + 1))) dX0_bodyOf_58 rfl (nI_1 _) (Nat.le_of_ble_eq_true rfl) ?_
          try simp only [xst, xst2, xclr, xset, xwide]
          refine x_goto (tgt := 4) dX0_bodyOf_61 rfl ?_
          first
          | (have h9 := Int32.not_le.mpr c20; exact ih4 (i + 1) _ _ (by omega) (by rw [← hz, hun, if_neg (fun y => h9 y.1)]) (by omega))
          | (have h9 := Int32.not_le.mpr c25; exact ih4 (i + 1) _ _ (by omega) (by rw [← hz, hun, if_neg (fun y => h9 y.2.1)]) (by omega))
          | (have h9 := Int32.not_lt.mpr c34; exact ih4 (i + 1) _ _ (by omega) (by rw [← hz, hun, if_neg (fun y => h9 y.2.2.1)]) (by omega))
          | (have h9 := c43; exact ih4 (i + 1) _ _ (by omega) (by rw [← hz, hun, if_neg (fun y => y.2.2.2 h9)]) (by omega))
        · refine x_iload dX0_bodyOf_23 rfl ?_
          refine x_if_lt (tgt := 53) dX0_bodyOf_25 rfl (fun c25 => ?_) (fun c25 => ?_)
          · refine x_iload_n dX0_bodyOf_53 rfl ?_
            refine x_callSN (k2 := 0) (n2 := 0) dX0_bodyOf_54 LSN_Acts_46 m_C_kindAbove rfl rfl (Nat.le_of_ble_eq_true rfl) (Nat.le_of_ble_eq_true rfl) (Nat.le_of_ble_eq_true rfl) (Nat.le_of_ble_eq_true rfl) ?_
            rintro _ _ ⟨rfl, rfl⟩
            refine x_istore_n dX0_bodyOf_57 (Nat.le_of_ble_eq_true rfl) ?_
            try simp only [xst, xst2, xclr, xset, xwide]
            refine x_iinc (v := (nI (i + 1))) dX0_bodyOf_58 rfl (nI_1 _) (Nat.le_of_ble_eq_true rfl) ?_
            try simp only [xst, xst2, xclr, xset, xwide]
            refine x_goto (tgt := 4) dX0_bodyOf_61 rfl ?_
            first
            | (have h9 := Int32.not_le.mpr c20; exact ih4 (i + 1) _ _ (by omega) (by rw [← hz, hun, if_neg (fun y => h9 y.1)]) (by omega))
            | (have h9 := Int32.not_le.mpr c25; exact ih4 (i + 1) _ _ (by omega) (by rw [← hz, hun, if_neg (fun y => h9 y.2.1)]) (by omega))
            | (have h9 := Int32.not_lt.mpr c34; exact ih4 (i + 1) _ _ (by omega) (by rw [← hz, hun, if_neg (fun y => h9 y.2.2.1)]) (by omega))
            | (have h9 := c43; exact ih4 (i + 1) _ _ (by omega) (by rw [← hz, hun, if_neg (fun y => y.2.2.2 h9)]) (by omega))
          · refine x_iload dX0_bodyOf_28 rfl ?_
            refine x_getsB dX0_bodyOf_30 S_Acts_43 ?_
            refine x_oalen dX0_bodyOf_33 xOa_B ?_
            refine x_icmp_ge (tgt := 53) dX0_bodyOf_34 rfl (fun c34 => ?_) (fun c34 => ?_)
            · refine x_iload_n dX0_bodyOf_53 rfl ?_
              refine x_callSN (k2 := 0) (n2 := 0) dX0_bodyOf_54 LSN_Acts_46 m_C_kindAbove rfl rfl (Nat.le_of_ble_eq_true rfl) (Nat.le_of_ble_eq_true rfl) (Nat.le_of_ble_eq_true rfl) (Nat.le_of_ble_eq_true rfl) ?_
              rintro _ _ ⟨rfl, rfl⟩
              refine x_istore_n dX0_bodyOf_57 (Nat.le_of_ble_eq_true rfl) ?_
              try simp only [xst, xst2, xclr, xset, xwide]
              refine x_iinc (v := (nI (i + 1))) dX0_bodyOf_58 rfl (nI_1 _) (Nat.le_of_ble_eq_true rfl) ?_
              try simp only [xst, xst2, xclr, xset, xwide]
              refine x_goto (tgt := 4) dX0_bodyOf_61 rfl ?_
              first
              | (have h9 := Int32.not_le.mpr c20; exact ih4 (i + 1) _ _ (by omega) (by rw [← hz, hun, if_neg (fun y => h9 y.1)]) (by omega))
              | (have h9 := Int32.not_le.mpr c25; exact ih4 (i + 1) _ _ (by omega) (by rw [← hz, hun, if_neg (fun y => h9 y.2.1)]) (by omega))
              | (have h9 := Int32.not_lt.mpr c34; exact ih4 (i + 1) _ _ (by omega) (by rw [← hz, hun, if_neg (fun y => h9 y.2.2.1)]) (by omega))
              | (have h9 := c43; exact ih4 (i + 1) _ _ (by omega) (by rw [← hz, hun, if_neg (fun y => y.2.2.2 h9)]) (by omega))
            · refine x_getsB dX0_bodyOf_37 S_Acts_43 ?_
              refine x_iload dX0_bodyOf_40 rfl ?_
              refine x_oaload dX0_bodyOf_42 xOa_B (vin (by decide) c25 c34) ?_
              refine x_if_eq (tgt := 53) dX0_bodyOf_43 rfl (fun c43 => ?_) (fun c43 => ?_)
              · refine x_iload_n dX0_bodyOf_53 rfl ?_
                refine x_callSN (k2 := 0) (n2 := 0) dX0_bodyOf_54 LSN_Acts_46 m_C_kindAbove rfl rfl (Nat.le_of_ble_eq_true rfl) (Nat.le_of_ble_eq_true rfl) (Nat.le_of_ble_eq_true rfl) (Nat.le_of_ble_eq_true rfl) ?_
                rintro _ _ ⟨rfl, rfl⟩
                refine x_istore_n dX0_bodyOf_57 (Nat.le_of_ble_eq_true rfl) ?_
                try simp only [xst, xst2, xclr, xset, xwide]
                refine x_iinc (v := (nI (i + 1))) dX0_bodyOf_58 rfl (nI_1 _) (Nat.le_of_ble_eq_true rfl) ?_
                try simp only [xst, xst2, xclr, xset, xwide]
                refine x_goto (tgt := 4) dX0_bodyOf_61 rfl ?_
                first
                | (have h9 := Int32.not_le.mpr c20; exact ih4 (i + 1) _ _ (by omega) (by rw [← hz, hun, if_neg (fun y => h9 y.1)]) (by omega))
                | (have h9 := Int32.not_le.mpr c25; exact ih4 (i + 1) _ _ (by omega) (by rw [← hz, hun, if_neg (fun y => h9 y.2.1)]) (by omega))
                | (have h9 := Int32.not_lt.mpr c34; exact ih4 (i + 1) _ _ (by omega) (by rw [← hz, hun, if_neg (fun y => h9 y.2.2.1)]) (by omega))
                | (have h9 := c43; exact ih4 (i + 1) _ _ (by omega) (by rw [← hz, hun, if_neg (fun y => y.2.2.2 h9)]) (by omega))
              · refine x_getsB dX0_bodyOf_46 S_Acts_43 ?_
                refine x_iload dX0_bodyOf_49 rfl ?_
                refine x_oaload dX0_bodyOf_51 xOa_B (vin (by decide) c25 c34) ?_
                refine x_ireturn dX0_bodyOf_52 rfl nb_int ?_
                exact ⟨by rw [← hz, hun, if_pos ⟨Int32.not_lt.mp c20, Int32.not_lt.mp c25, Int32.not_le.mp c34, c43⟩], rfl⟩
  exact K4 _ 0 x none (Nat.zero_le _) rfl (Nat.lt_succ_self _)
