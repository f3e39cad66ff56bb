/-! the class: constructors -/
theorem y_new {g : xG} {y : xY} {d k n : Nat} {Q : Option Value → xS → Prop} {pc : Nat} {ls : List (Option Value)} {st : List Value} {nx nx1 : Nat} {sh : Nat → Nat × Nat} {P : Nat → Nat → Option Nat} {I : Nat → Nat → Int32} {k2 n2 ci N index : Nat} (hd : decode y.2.1 pc = .ok (.new index, 3)) (hN : xNw y.1.cls index ci N) (e : nx + 1 = nx1) (hk : 1 + k2 ≤ k) (hn : N + n2 ≤ n) (kk : xX g y d k2 n2 Q (pc + 3) ls (.ref nx :: st) (nx1, va_up sh nx (ci, 0), va_up P nx (fun _ => none), va_up I nx (fun _ => 0))) : xX g y d k n Q pc ls st (nx, sh, P, I) := by
  subst e
  exact x_new hd hN hk hn kk
theorem y_newI {g : xG} {y : xY} {d k n : Nat} {Q : Option Value → xS → Prop} {pc : Nat} {ls : List (Option Value)} {st : List Value} {nx nx1 : Nat} {sh : Nat → Nat × Nat} {P : Nat → Nat → Option Nat} {I : Nat → Nat → Int32} {k2 n2 len : Nat} {v : Int32} (hd : decode y.2.1 pc = .ok (.newarray .int, 2)) (e : nx + 1 = nx1) (hv : v = nI len) (hsz : len ≤ 100000) (hk : 1 + k2 ≤ k) (hn : len + n2 ≤ n) (kk : xX g y d k2 n2 Q (pc + 2) ls (.ref nx :: st) (nx1, va_up sh nx (12, len), va_up P nx (fun _ => none), va_up I nx (fun _ => 0))) : xX g y d k n Q pc ls (.int v :: st) (nx, sh, P, I) := by
  subst e
  exact x_newI hd AC_int (by rw [hv]; exact nI_pos (by omega)) (by rw [hv, nI_clamp (by omega)]) hsz hk hn kk
theorem y_newZ {g : xG} {y : xY} {d k n : Nat} {Q : Option Value → xS → Prop} {pc : Nat} {ls : List (Option Value)} {st : List Value} {nx nx1 : Nat} {sh : Nat → Nat × Nat} {P : Nat → Nat → Option Nat} {I : Nat → Nat → Int32} {k2 n2 len : Nat} {v : Int32} (hd : decode y.2.1 pc = .ok (.newarray .boolean, 2)) (e : nx + 1 = nx1) (hv : v = nI len) (hsz : len ≤ 100000) (hk : 1 + k2 ≤ k) (hn : len + n2 ≤ n) (kk : xX g y d k2 n2 Q (pc + 2) ls (.ref nx :: st) (nx1, va_up sh nx (13, len), va_up P nx (fun _ => none), va_up I nx (fun _ => 0))) : xX g y d k n Q pc ls (.int v :: st) (nx, sh, P, I) := by
  subst e
  exact x_newZ hd AC_boolean (by rw [hv]; exact nI_pos (by omega)) (by rw [hv, nI_clamp (by omega)]) hsz hk hn kk
theorem mx_1 {W : Nat} (h : 1 ≤ W) (hW : W < 2 ^ 31) : (if nI W ≤ 1 then (1 : Int32) else nI W) = nI W := by
  by_cases h1 : nI W ≤ 1
  · rw [if_pos h1]
    have := (nI_leI (b := 1) hW (by decide)).mp h1
    rw [show W = 1 by omega]; rfl
  · rw [if_neg h1]
theorem mxz {W : Nat} (hW : W < 2 ^ 31) : (if nI W ≤ 0 then (0 : Int32) else nI W) = nI W := by
  by_cases h1 : nI W ≤ 0
  · rw [if_pos h1]
    have := (nI_leI (b := 0) hW (by decide)).mp h1
    rw [show W = 0 by omega]; rfl
  · rw [if_neg h1]
set_option maxHeartbeats 4000000 in
set_option maxRecDepth 100000 in
theorem m_Table_init {g : xG} {nx : Nat} {sh : Nat → Nat × Nat} {P : Nat → Nat → Option Nat} {I : Nat → Nat → Int32} {t W L nx1 : Nat} (ht : (sh t).1 = 8) (htn : t ≠ nx) (hW1 : 1 ≤ W) (hWm : W ≤ 1000) (hLm : L ≤ 1000) (hWL : W * L ≤ 1000) (hnx : nx + 1 = nx1) : xMet g Y_Table_init 2 1 (W * L) [.ref t, .int (nI W), .int (nI L)] (nx, sh, P, I) (fun r σ => r = none ∧ σ = (nx1, va_up sh nx (12, W * L), xrp (va_up P nx (fun _ => none)) t 2 (some nx), va_up (xup (xup (xup I t 3 0) t 0 (nI W)) t 1 (nI L)) nx (fun _ => 0))) := by
  refine xMet.of [some (.ref t), some (.int (nI W)), some (.int (nI L))] (by decide +kernel) (Nat.le_of_ble_eq_true rfl) rfl ?_
  have xs1 : xup (xup (xup I t 3 0) t 0 (nI W)) t 1 (nI L) t 0 = nI W := by rw [xf (by decide), xs]
  have xs2 : xup (xup (xup I t 3 0) t 0 (nI W)) t 1 (nI L) t 1 = nI L := xs
  have ht2 : (va_up sh nx (12, W * L) t).1 = 8 := by unfold va_up; rw [if_neg htn]; exact ht
  refine x_aload_n dX8_init_0 rfl ?_
  refine x_objInit dX8_init_1 OI_Table_1 OI_inst OI_code (Nat.le_of_ble_eq_true rfl) (Nat.le_of_ble_eq_true rfl) ?_
  refine x_aload_n dX8_init_4 rfl ?_
  refine x_iconst (v := 0) dX8_init_5 (by decide) ?_
  refine x_puti dX8_init_6 F_Table_7 T_8_3 ht rfl rfl rfl ?_
  refine x_aload_n dX8_init_9 rfl ?_
  refine x_iload_n dX8_init_10 rfl ?_
  refine x_iconst (v := 1) dX8_init_11 (by decide) ?_
  refine x_callS (k2 := 1) (n2 := (W * L)) dX8_init_12 LS_Table_13 m_max rfl rfl (Nat.le_of_ble_eq_true rfl) (Nat.le_of_ble_eq_true rfl) (Nat.le_of_ble_eq_true rfl) (Nat.le_of_eq (Nat.zero_add _)) ?_
  rintro _ _ ⟨rfl, rfl⟩
  rw [mx_1 hW1 (by omega)]
  refine x_putiF dX8_init_15 F_Table_19 T_8_0 rfl rfl ht rfl rfl rfl ?_
  refine x_aload_n dX8_init_18 rfl ?_
  refine x_iload_n dX8_init_19 rfl ?_
  refine x_iconst (v := 0) dX8_init_20 (by decide) ?_
  refine x_callS (k2 := 1) (n2 := (W * L)) dX8_init_21 LS_Table_13 m_max rfl rfl (Nat.le_of_ble_eq_true rfl) (Nat.le_of_ble_eq_true rfl) (Nat.le_of_ble_eq_true rfl) (Nat.le_of_eq (Nat.zero_add _)) ?_
  rintro _ _ ⟨rfl, rfl⟩
  rw [mxz (by omega)]
  refine x_putiF dX8_init_24 F_Table_22 T_8_1 rfl rfl ht rfl rfl rfl ?_
  refine x_aload_n dX8_init_27 rfl ?_
  refine x_aload_n dX8_init_28 rfl ?_
  refine y_geti dX8_init_29 F_Table_19 ht rfl xs1 ?_
  refine x_aload_n dX8_init_32 rfl ?_
  refine y_geti dX8_init_33 F_Table_22 ht rfl xs2 ?_
  refine x_imul dX8_init_36 ?_
  rw [pk_mul]
  refine y_newI (k2 := 0) (n2 := 0) (nx1 := nx1) (len := W * L) dX8_init_37 hnx rfl (by omega) (Nat.le_of_ble_eq_true rfl) (Nat.le_refl _) ?_
  refine x_putrF dX8_init_39 F_Table_25 T_8_2 rfl rfl ht2 rfl (fun _ => rfl) (fun _ => rfl) ?_
  refine x_return dX8_init_42 rfl ?_
  exact ⟨rfl, rfl⟩

set_option maxHeartbeats 4000000 in
set_option maxRecDepth 100000 in
theorem m_Rows_init {g : xG} {nx : Nat} {sh : Nat → Nat × Nat} {P : Nat → Nat → Option Nat} {I : Nat → Nat → Int32} {t W nx1 nx2 nx3 : Nat} (ht : (sh t).1 = 7) (htn : t < nx) (hWm : W ≤ 1000) (e1 : nx + 1 = nx1) (e2 : nx1 + 1 = nx2) (e3 : nx2 + 1 = nx3) : xMet g Y_Rows_init 2 3 (W + W + W) [.ref t, .int (nI W)] (nx, sh, P, I) (fun r σ => r = none ∧ σ = (nx3, va_up (va_up (va_up sh nx (12, W)) nx1 (12, W)) nx2 (12, W), xrp (va_up (xrp (va_up (xrp (va_up P nx (fun _ => none)) t 0 (some nx)) nx1 (fun _ => none)) t 1 (some nx1)) nx2 (fun _ => none)) t 2 (some nx2), va_up (va_up (va_up I nx (fun _ => 0)) nx1 (fun _ => 0)) nx2 (fun _ => 0))) := by
  refine xMet.of [some (.ref t), some (.int (nI W)), none] (by decide +kernel) (Nat.le_of_ble_eq_true rfl) rfl ?_
  have hs1 : ∀ f : Nat → Nat × Nat, ∀ b v, t ≠ b → (f t).1 = 7 → (va_up f b v t).1 = 7 := fun f b v h h2 => by unfold va_up; rw [if_neg h]; exact h2
  have ht1 := hs1 sh nx (12, W) (by omega) ht
  have ht2 := hs1 _ nx1 (12, W) (by omega) ht1
  have ht3 := hs1 _ nx2 (12, W) (by omega) ht2
  refine x_aload_n dX7_init_0 rfl ?_
  refine x_objInit dX7_init_1 OI_Rows_1 OI_inst OI_code (Nat.le_of_ble_eq_true rfl) (Nat.le_of_ble_eq_true rfl) ?_
  refine x_iconst (v := 0) dX7_init_4 (by decide) ?_
  refine x_iload_n dX7_init_5 rfl ?_
  refine x_callS (k2 := 3) (n2 := (W + W + W)) dX7_init_6 LS_Rows_7 m_max rfl rfl (Nat.le_of_ble_eq_true rfl) (Nat.le_of_ble_eq_true rfl) (Nat.le_of_ble_eq_true rfl) (Nat.le_of_eq (Nat.zero_add _)) ?_
  rintro _ _ ⟨rfl, rfl⟩
  rw [show (if (0 : Int32) ≤ nI W then nI W else 0) = nI W from if_pos (nI_0le (by omega))]
  refine x_istore_n dX7_init_9 (Nat.le_of_ble_eq_true rfl) ?_
  try simp only [xst, xst2, xclr, xset, xwide]
  refine x_aload_n dX7_init_10 rfl ?_
  refine x_iload_n dX7_init_11 rfl ?_
  refine y_newI (k2 := 2) (n2 := W + W) (nx1 := nx1) (len := W) dX7_init_12 e1 rfl (by omega) (Nat.le_of_ble_eq_true rfl) (by omega) ?_
  refine x_putrF dX7_init_14 F_Rows_13 T_7_0 rfl rfl ht1 rfl (fun _ => rfl) (fun _ => rfl) ?_
  refine x_aload_n dX7_init_17 rfl ?_
  refine x_iload_n dX7_init_18 rfl ?_
  refine y_newI (k2 := 1) (n2 := W) (nx1 := nx2) (len := W) dX7_init_19 e2 rfl (by omega) (Nat.le_of_ble_eq_true rfl) (Nat.le_refl _) ?_
  refine x_putrF dX7_init_21 F_Rows_19 T_7_1 rfl rfl ht2 rfl (fun _ => rfl) (fun _ => rfl) ?_
  refine x_aload_n dX7_init_24 rfl ?_
  refine x_iload_n dX7_init_25 rfl ?_
  refine y_newI (k2 := 0) (n2 := 0) (nx1 := nx3) (len := W) dX7_init_26 e3 rfl (by omega) (Nat.le_of_ble_eq_true rfl) (Nat.le_refl _) ?_
  refine x_putrF dX7_init_28 F_Rows_22 T_7_2 rfl rfl ht3 rfl (fun _ => rfl) (fun _ => rfl) ?_
  refine x_return dX7_init_31 rfl ?_
  exact ⟨rfl, rfl⟩
