/-! the reference: guesses -/
/-- nothing but these fields of the reference has changed -/
def xFd (l : List Nat) (I I1 : Nat → Nat → Int32) : Prop := ∀ j, j ∉ l → I1 127 j = I 127 j
theorem xFd.rf {l : List Nat} {I : Nat → Nat → Int32} : xFd l I I := fun _ _ => rfl
theorem xFd.of {l1 l : List Nat} {I I1 : Nat → Nat → Int32} (h : xFrm l I I1) (h2 : 127 ∉ l := by decide) : xFd l1 I I1 := fun j _ => congrFun (h 127 h2) j
theorem xFd.tr {l l1 l2 : List Nat} {I I1 I2 : Nat → Nat → Int32} (h1 : xFd l1 I I1) (h2 : xFd l2 I1 I2) (hl1 : ∀ b ∈ l1, b ∈ l := by decide) (hl2 : ∀ b ∈ l2, b ∈ l := by decide) : xFd l I I2 := fun b hb => (h2 b (fun z => hb (hl2 b z))).trans (h1 b (fun z => hb (hl1 b z)))
theorem xFdxup {l l1 : List Nat} {I I1 : Nat → Nat → Int32} {k : Nat} {v : Int32} (h1 : xFd l1 I I1) (hk : k ∈ l := by decide) (hl1 : ∀ b ∈ l1, b ∈ l := by decide) : xFd l I (xup I1 127 k v) := fun b hb => by rw [xup_at, if_neg (fun z => hb (by rw [z.2]; exact hk))]; exact h1 b (fun z => hb (hl1 b z))
theorem xFdno {l l1 : List Nat} {I I1 : Nat → Nat → Int32} {a k : Nat} {v : Int32} (h1 : xFd l1 I I1) (ha : a ≠ 127 := by decide) (hl1 : ∀ b ∈ l1, b ∈ l := by decide) : xFd l I (xup I1 a k v) := fun b hb => by rw [xup_n (Ne.symm ha)]; exact h1 b (fun z => hb (hl1 b z))
theorem tlO_bd {s : Nat → Int32} (h : RI s) {w v : Nat} (hv : v ≤ 99) (hw : w = 217 ∨ w = 222) : ∃ t, t ≤ 99 ∧ tlO s w (nI v) = nI t := by
  unfold tlO
  rcases h.hold with z | ⟨a, h1, h2⟩
  · rw [if_pos z]; exact ⟨v, hv, rfl⟩
  · have hb := h.2.1.2.2.1
    have hn : ¬ s 8 = -1 := by rw [h2]; intro z; have := nI_pos (n := a) (by omega); rw [z] at this; exact this (by decide)
    rw [if_neg hn, h2, nI_clamp (by omega)]
    obtain ⟨h5, h6, -⟩ := h.2.2.2.2.1.1 a h1
    rcases hw with rfl | rfl
    · exact h5
    · exact h6
/-- TOP as a natural number -/
theorem tpN_bd {s : Nat → Int32} (h : RI s) : ∃ t, 1 ≤ t ∧ t ≤ 9 ∧ tpN s = nI t := by
  obtain ⟨t, ht, e⟩ := tlO_bd (w := 217) (v := 9) h (by omega) (Or.inl rfl)
  have e : tlO s 217 9 = nI t := e
  unfold tpN
  rw [e]
  by_cases h1 : nI t < 1
  · rw [if_pos h1]; exact ⟨1, by omega, by omega, rfl⟩
  · rw [if_neg h1]
    have h2 : 1 ≤ t := by
      rcases Nat.eq_zero_or_pos t with z | z
      · subst z; exact absurd (by decide) h1
      · exact z
    by_cases h3 : 9 < nI t
    · rw [if_pos h3]; exact ⟨9, by omega, by omega, rfl⟩
    · rw [if_neg h3]
      exact ⟨t, h2, Nat.not_lt.mp (fun z => h3 (nI_lt (a := 9) z (by omega))), rfl⟩
/-- the base that guess number g tells coin c, TOP being t -/
def dg (t g c : Nat) : Nat := 1 + g / t ^ c % t
theorem dg_in {t g c : Nat} (h1 : 1 ≤ t) (h9 : t ≤ 9) : 1 ≤ dg t g c ∧ dg t g c < 10 := by
  unfold dg
  have := Nat.mod_lt (g / t ^ c) (show 0 < t by omega)
  omega
theorem pw_in {t i : Nat} (h1 : 1 ≤ t) (h9 : t ≤ 9) (hi : i ≤ 4) : 1 ≤ t ^ i ∧ t ^ i ≤ 6561 := by
  refine ⟨by have := Nat.pow_le_pow_left (show 1 ≤ t by omega) i; rwa [Nat.one_pow] at this, ?_⟩
  have a1 : t ^ i ≤ t ^ 4 := Nat.pow_le_pow_right (by omega) hi
  have a2 : t ^ 4 ≤ 9 ^ 4 := Nat.pow_le_pow_left h9 4
  have a3 : 9 ^ 4 = 6561 := by decide
  omega
/-- what the first n coins of a BUY are worth by a guess -/
def sbR (s : Nat → Int32) (gv : Nat → Nat) (k : Nat) : Nat → Int32
  | 0 => 0
  | n + 1 => sbR s gv k n + s (53 + 4 * k + n) * wb s n (gv n)
/-- by how much the first n BUYS are dearer by a guess than told, at most -/
def cbR (s : Nat → Int32) (gv : Nat → Nat) : Nat → Int32
  | 0 => 0
  | n + 1 => if sbR s gv n (cN s 0) - s (47 + n) < 0 then 1000000 else if cbR s gv n < sbR s gv n (cN s 0) - s (47 + n) then sbR s gv n (cN s 0) - s (47 + n) else cbR s gv n
/-- the table of worths by bases stands -/
def xBB (I : Nat → Nat → Int32) : Prop := ∀ c w, c < cN (I 128) 0 → 1 ≤ w → w < 10 → I 133 (10 * c + w) = wb (I 128) c w
/-- a guess is written down -/
def xGs (I : Nat → Nat → Int32) (gv : Nat → Nat) : Prop := ∀ c, c < cN (I 128) 0 → I 134 c = nI (gv c) ∧ 1 ≤ gv c ∧ gv c < 10

set_option maxHeartbeats 4000000 in
set_option maxRecDepth 100000 in
theorem r_sumBy {g : xG} {nx : Nat} {sh : Nat → Nat × Nat} {P : Nat → Nat → Option Nat} {I : Nat → Nat → Int32} (hx : xFx sh P) {k : Nat} {gv : Nat → Nat} (hR : RI (I 128)) (hB : xBB I) (hG : xGs I gv) (hk : k < 6) : xMet g Y_M_sumBy 0 0 0 [.ref 127, .int (nI k)] (nx, sh, P, I) (fun r σ => r = some (.int (sbR (I 128) gv k (cN (I 128) 0))) ∧ σ = (nx, sh, P, I)) := by
  refine xMet.of [some (.ref 127), some (.int (nI k)), none, none] (by decide +kernel) (Nat.le_of_ble_eq_true rfl) rfl ?_
  obtain ⟨⟨n0, b0, e0⟩, ⟨n1, b1, e1⟩, ⟨n2, b2, e2⟩, ⟨n3, b3, e3⟩, ⟨n4, b4, e4⟩, ⟨n5, b5, e5⟩, ⟨n6, b6, e6⟩, ⟨n7, b7, e7⟩, ⟨n9, b9, e9⟩⟩ := hR.k
  refine x_iconst (v := 0) dX11_sumBy_0 (by decide) ?_
  refine x_istore_n dX11_sumBy_1 (Nat.le_of_ble_eq_true rfl) ?_
  try simp only [xst, xst2, xclr, xset, xwide]
  refine x_iconst (v := 0) dX11_sumBy_2 (by decide) ?_
  refine x_istore_n dX11_sumBy_3 (Nat.le_of_ble_eq_true rfl) ?_
  try simp only [xst, xst2, xclr, xset, xwide]
  have K4 : ∀ (fuel : Nat) (i : Nat) (a : Int32) (hi : i ≤ n0) (ha : a = sbR (I 128) gv k i), n0 - i < fuel → xX g Y_M_sumBy 0 0 0 (fun r σ => r = some (.int (sbR (I 128) gv k (cN (I 128) 0))) ∧ σ = (nx, sh, P, I)) 4 [some (.ref 127), some (.int (nI k)), some (.int a), some (.int (nI i))] [] (nx, sh, P, I) := by
    intro fuel
    induction fuel with
    | zero => intro i a hi ha hm; exact absurd hm (Nat.not_lt_zero _)
    | succ fuel ih4 =>
      intro i a hi ha hm
      refine x_iload_n dX11_sumBy_4 rfl ?_
      refine x_aload_n dX11_sumBy_5 rfl ?_
      refine y_getr dX11_sumBy_6 F_M_9 (fxo_127 hx) rfl (fxp_127_1 hx) ?_
      refine x_iconst (v := 0) dX11_sumBy_9 (by decide) ?_
      refine y_iaload dX11_sumBy_10 (fxk_128 hx) (vi (j := 0) rfl (by omega) (by decide)) (rI (j := 0) rfl e0) ?_
      refine x_icmp_ge (tgt := 53) dX11_sumBy_11 rfl (fun c11 => ?_) (fun c11 => ?_)
      · have hie : i = n0 := cge_t (by omega) hi c11
        refine x_iload_n dX11_sumBy_53 rfl ?_
        refine x_ireturn dX11_sumBy_54 rfl nb_int ?_
        subst hie
        exact ⟨by rw [cN_of e0 (by omega), ha], rfl⟩
      · have him : i < n0 := cge_f (by omega) hi c11
        have hic : i < cN (I 128) 0 := by rw [cN_of e0 (by omega)]; exact him
        obtain ⟨hg1, hg2, hg3⟩ := hG i hic
        refine x_iload_n dX11_sumBy_14 rfl ?_
        refine x_aload_n dX11_sumBy_15 rfl ?_
        refine y_getr dX11_sumBy_16 F_M_9 (fxo_127 hx) rfl (fxp_127_1 hx) ?_
        refine x_bipush (v := 53) dX11_sumBy_19 (by decide) ?_
        refine x_iconst (v := 4) dX11_sumBy_21 (by decide) ?_
        refine x_iload_n dX11_sumBy_22 rfl ?_
        refine x_imul dX11_sumBy_23 ?_
        refine x_iadd dX11_sumBy_24 ?_
        refine x_iload_n dX11_sumBy_25 rfl ?_
        refine x_iadd dX11_sumBy_26 ?_
        refine y_iaload dX11_sumBy_27 (fxk_128 hx) (vi (j := ((53 + (4 * k)) + i)) (nadd (a := (53 + (4 * k))) (b := i) (nadd (a := 53) (b := (4 * k)) rfl (nmul (a := 4) (b := k) rfl rfl)) rfl) (by omega) (by decide)) (rI (j := ((53 + (4 * k)) + i)) (ci (nadd (a := (53 + (4 * k))) (b := i) (nadd (a := 53) (b := (4 * k)) rfl (nmul (a := 4) (b := k) rfl rfl)) rfl) (by omega)) rfl) ?_
        refine x_aload_n dX11_sumBy_28 rfl ?_
        refine y_getr dX11_sumBy_29 F_M_28 (fxo_127 hx) rfl (fxp_127_12 hx) ?_
        refine x_bipush (v := 10) dX11_sumBy_32 (by decide) ?_
        refine x_iload_n dX11_sumBy_34 rfl ?_
        refine x_imul dX11_sumBy_35 ?_
        refine x_aload_n dX11_sumBy_36 rfl ?_
        refine y_getr dX11_sumBy_37 F_M_31 (fxo_127 hx) rfl (fxp_127_13 hx) ?_
        refine x_iload_n dX11_sumBy_40 rfl ?_
        refine y_iaload dX11_sumBy_41 (fxk_134 hx) (vi (j := i) rfl (by omega) (by decide)) (rI (j := i) (ci rfl (by omega)) hg1) ?_
        refine x_iadd dX11_sumBy_42 ?_
        refine y_iaload dX11_sumBy_43 (fxk_133 hx) (vi (j := ((10 * i) + (gv i))) (nadd (a := (10 * i)) (b := (gv i)) (nmul (a := 10) (b := i) rfl rfl) rfl) (by omega) (by decide)) (rI (j := ((10 * i) + (gv i))) (ci (nadd (a := (10 * i)) (b := (gv i)) (nmul (a := 10) (b := i) rfl rfl) rfl) (by omega)) (hB i (gv i) hic hg2 hg3)) ?_
        refine x_imul dX11_sumBy_44 ?_
        refine x_iadd dX11_sumBy_45 ?_
        refine x_istore_n dX11_sumBy_46 (Nat.le_of_ble_eq_true rfl) ?_
        try simp only [xst, xst2, xclr, xset, xwide]
        refine x_iinc (v := (nI (i + 1))) dX11_sumBy_47 rfl (nI_1 _) (Nat.le_of_ble_eq_true rfl) ?_
        try simp only [xst, xst2, xclr, xset, xwide]
        refine x_goto (tgt := 4) dX11_sumBy_50 rfl ?_
        exact ih4 (i + 1) _ (by omega) (by rw [ha]; rfl) (by omega)
  exact K4 _ 0 0 (Nat.zero_le _) rfl (Nat.lt_succ_self _)

set_option maxHeartbeats 4000000 in
set_option maxRecDepth 100000 in
theorem r_cheatBy {g : xG} {nx : Nat} {sh : Nat → Nat × Nat} {P : Nat → Nat → Option Nat} {I : Nat → Nat → Int32} (hx : xFx sh P) {b : Nat} {gv : Nat → Nat} (hR : RI (I 128)) (hB : xBB I) (hG : xGs I gv) (hb6 : b ≤ 6) : xMet g Y_M_cheatBy 1 0 0 [.ref 127, .int (nI b)] (nx, sh, P, I) (fun r σ => r = some (.int (cbR (I 128) gv b)) ∧ σ = (nx, sh, P, I)) := by
  refine xMet.of [some (.ref 127), some (.int (nI b)), none, none, none] (by decide +kernel) (Nat.le_of_ble_eq_true rfl) rfl ?_
  obtain ⟨⟨n0, b0, e0⟩, ⟨n1, b1, e1⟩, ⟨n2, b2, e2⟩, ⟨n3, b3, e3⟩, ⟨n4, b4, e4⟩, ⟨n5, b5, e5⟩, ⟨n6, b6, e6⟩, ⟨n7, b7, e7⟩, ⟨n9, b9, e9⟩⟩ := hR.k
  refine x_iconst (v := 0) dX11_cheatBy_0 (by decide) ?_
  refine x_istore_n dX11_cheatBy_1 (Nat.le_of_ble_eq_true rfl) ?_
  try simp only [xst, xst2, xclr, xset, xwide]
  refine x_iconst (v := 0) dX11_cheatBy_2 (by decide) ?_
  refine x_istore_n dX11_cheatBy_3 (Nat.le_of_ble_eq_true rfl) ?_
  try simp only [xst, xst2, xclr, xset, xwide]
  have K4 : ∀ (fuel : Nat) (i : Nat) (a : Int32) (v4 : Option Value) (hi : i ≤ b) (ha : a = cbR (I 128) gv i), b - i < fuel → xX g Y_M_cheatBy 1 0 0 (fun r σ => r = some (.int (cbR (I 128) gv b)) ∧ σ = (nx, sh, P, I)) 4 [some (.ref 127), some (.int (nI b)), some (.int a), some (.int (nI i)), v4] [] (nx, sh, P, I) := by
    intro fuel
    induction fuel with
    | zero => intro i a v4 hi ha hm; exact absurd hm (Nat.not_lt_zero _)
    | succ fuel ih4 =>
      intro i a v4 hi ha hm
      refine x_iload_n dX11_cheatBy_4 rfl ?_
      refine x_iload_n dX11_cheatBy_5 rfl ?_
      refine x_icmp_ge (tgt := 55) dX11_cheatBy_6 rfl (fun c6 => ?_) (fun c6 => ?_)
      · have hie : i = b := cge_t (by omega) hi c6
        refine x_iload_n dX11_cheatBy_55 rfl ?_
        refine x_ireturn dX11_cheatBy_56 rfl nb_int ?_
        subst hie
        exact ⟨by rw [ha], rfl⟩
      · have him : i < b := cge_f (by omega) hi c6
        refine x_aload_n dX11_cheatBy_9 rfl ?_
        refine x_iload_n dX11_cheatBy_10 rfl ?_
        refine x_callV (k2 := 0) (n2 := 0) dX11_cheatBy_11 LV_M_177 (r_sumBy (k := i) hx hR hB hG (by omega)) rfl rfl (fxo_127 hx) rfl (Nat.le_of_ble_eq_true rfl) (Nat.le_of_ble_eq_true rfl) (Nat.le_of_ble_eq_true rfl) (Nat.le_of_ble_eq_true rfl) ?_
        rintro _ _ ⟨rfl, rfl⟩
        have hun : cbR (I 128) gv (i + 1) = if sbR (I 128) gv i (cN (I 128) 0) - I 128 (47 + i) < 0 then 1000000 else if cbR (I 128) gv i < sbR (I 128) gv i (cN (I 128) 0) - I 128 (47 + i) then sbR (I 128) gv i (cN (I 128) 0) - I 128 (47 + i) else cbR (I 128) gv i := rfl
        refine x_aload_n dX11_cheatBy_14 rfl ?_
        refine y_getr dX11_cheatBy_15 F_M_9 (fxo_127 hx) rfl (fxp_127_1 hx) ?_
        refine x_bipush (v := 47) dX11_cheatBy_18 (by decide) ?_
        refine x_iload_n dX11_cheatBy_20 rfl ?_
        refine x_iadd dX11_cheatBy_21 ?_
        refine y_iaload dX11_cheatBy_22 (fxk_128 hx) (vi (j := (47 + i)) (nadd (a := 47) (b := i) rfl rfl) (by omega) (by decide)) (rI (j := (47 + i)) (ci (nadd (a := 47) (b := i) rfl rfl) (by omega)) rfl) ?_
        refine x_isub dX11_cheatBy_23 ?_
        refine x_istore dX11_cheatBy_24 (Nat.le_of_ble_eq_true rfl) ?_
        try simp only [xst, xst2, xclr, xset, xwide]
        refine x_iload dX11_cheatBy_26 rfl ?_
        refine x_if_ge (tgt := 36) dX11_cheatBy_28 rfl (fun c28 => ?_) (fun c28 => ?_)
        · refine x_iload dX11_cheatBy_36 rfl ?_
          refine x_iload_n dX11_cheatBy_38 rfl ?_
          refine x_icmp_le (tgt := 47) dX11_cheatBy_39 rfl (fun c39 => ?_) (fun c39 => ?_)
          · refine x_iload_n dX11_cheatBy_47 rfl ?_
            refine x_istore_n dX11_cheatBy_48 (Nat.le_of_ble_eq_true rfl) ?_
            try simp only [xst, xst2, xclr, xset, xwide]
            refine x_iinc (v := (nI (i + 1))) dX11_cheatBy_49 rfl (nI_1 _) (Nat.le_of_ble_eq_true rfl) ?_
            try simp only [xst, xst2, xclr, xset, xwide]
            refine x_goto (tgt := 4) dX11_cheatBy_52 rfl ?_
            exact ih4 (i + 1) _ _ (by omega) (by first | (rw [hun, if_pos (Int32.not_le.mp c28)]) | (rw [hun, if_neg (Int32.not_lt.mpr c28), if_pos (by rw [← ha]; exact Int32.not_le.mp c39)]) | (rw [hun, if_neg (Int32.not_lt.mpr c28), if_neg (by rw [← ha]; exact Int32.not_lt.mpr c39)]; exact ha)) (by omega)
          · refine x_iload dX11_cheatBy_42 rfl ?_
            refine x_goto (tgt := 48) dX11_cheatBy_44 rfl ?_
            refine x_istore_n dX11_cheatBy_48 (Nat.le_of_ble_eq_true rfl) ?_
            try simp only [xst, xst2, xclr, xset, xwide]
            refine x_iinc (v := (nI (i + 1))) dX11_cheatBy_49 rfl (nI_1 _) (Nat.le_of_ble_eq_true rfl) ?_
            try simp only [xst, xst2, xclr, xset, xwide]
            refine x_goto (tgt := 4) dX11_cheatBy_52 rfl ?_
            exact ih4 (i + 1) _ _ (by omega) (by first | (rw [hun, if_pos (Int32.not_le.mp c28)]) | (rw [hun, if_neg (Int32.not_lt.mpr c28), if_pos (by rw [← ha]; exact Int32.not_le.mp c39)]) | (rw [hun, if_neg (Int32.not_lt.mpr c28), if_neg (by rw [← ha]; exact Int32.not_lt.mpr c39)]; exact ha)) (by omega)
        · refine x_ldc dX11_cheatBy_31 KI_X11_180 ?_
          refine x_goto (tgt := 48) dX11_cheatBy_33 rfl ?_
          refine x_istore_n dX11_cheatBy_48 (Nat.le_of_ble_eq_true rfl) ?_
          try simp only [xst, xst2, xclr, xset, xwide]
          refine x_iinc (v := (nI (i + 1))) dX11_cheatBy_49 rfl (nI_1 _) (Nat.le_of_ble_eq_true rfl) ?_
          try simp only [xst, xst2, xclr, xset, xwide]
          refine x_goto (tgt := 4) dX11_cheatBy_52 rfl ?_
          exact ih4 (i + 1) _ _ (by omega) (by first | (rw [hun, if_pos (Int32.not_le.mp c28)]) | (rw [hun, if_neg (Int32.not_lt.mpr c28), if_pos (by rw [← ha]; exact Int32.not_le.mp c39)]) | (rw [hun, if_neg (Int32.not_lt.mpr c28), if_neg (by rw [← ha]; exact Int32.not_lt.mpr c39)]; exact ha)) (by omega)
  exact K4 _ 0 0 none (Nat.zero_le _) rfl (Nat.lt_succ_self _)

set_option maxHeartbeats 4000000 in
set_option maxRecDepth 100000 in
theorem r_guesses {g : xG} {nx : Nat} {sh : Nat → Nat × Nat} {P : Nat → Nat → Option Nat} {I : Nat → Nat → Int32} (hx : xFx sh P) {t : Nat} (hR : RI (I 128)) (ht : tpN (I 128) = nI t) : xMet g Y_M_guesses 2 0 0 [.ref 127] (nx, sh, P, I) (fun r σ => r = some (.int (nI (t ^ cN (I 128) 0))) ∧ σ = (nx, sh, P, I)) := by
  refine xMet.of [some (.ref 127), none, none] (by decide +kernel) (Nat.le_of_ble_eq_true rfl) rfl ?_
  obtain ⟨⟨n0, b0, e0⟩, ⟨n1, b1, e1⟩, ⟨n2, b2, e2⟩, ⟨n3, b3, e3⟩, ⟨n4, b4, e4⟩, ⟨n5, b5, e5⟩, ⟨n6, b6, e6⟩, ⟨n7, b7, e7⟩, ⟨n9, b9, e9⟩⟩ := hR.k
  refine x_iconst (v := 1) dX11_guesses_0 (by decide) ?_
  refine x_istore_n dX11_guesses_1 (Nat.le_of_ble_eq_true rfl) ?_
  try simp only [xst, xst2, xclr, xset, xwide]
  refine x_iconst (v := 0) dX11_guesses_2 (by decide) ?_
  refine x_istore_n dX11_guesses_3 (Nat.le_of_ble_eq_true rfl) ?_
  try simp only [xst, xst2, xclr, xset, xwide]
  have K4 : ∀ (fuel : Nat) (i : Nat) (hi : i ≤ n0), n0 - i < fuel → xX g Y_M_guesses 2 0 0 (fun r σ => r = some (.int (nI (t ^ cN (I 128) 0))) ∧ σ = (nx, sh, P, I)) 4 [some (.ref 127), some (.int (nI (t ^ i))), some (.int (nI i))] [] (nx, sh, P, I) := by
    intro fuel
    induction fuel with
    | zero => intro i hi hm; exact absurd hm (Nat.not_lt_zero _)
    | succ fuel ih4 =>
      intro i hi hm
      refine x_iload_n dX11_guesses_4 rfl ?_
      refine x_aload_n dX11_guesses_5 rfl ?_
      refine y_getr dX11_guesses_6 F_M_9 (fxo_127 hx) rfl (fxp_127_1 hx) ?_
      refine x_iconst (v := 0) dX11_guesses_9 (by decide) ?_
      refine y_iaload dX11_guesses_10 (fxk_128 hx) (vi (j := 0) rfl (by omega) (by decide)) (rI (j := 0) rfl e0) ?_
      refine x_icmp_ge (tgt := 27) dX11_guesses_11 rfl (fun c11 => ?_) (fun c11 => ?_)
      · have hie : i = n0 := cge_t (by omega) hi c11
        refine x_iload_n dX11_guesses_27 rfl ?_
        refine x_ireturn dX11_guesses_28 rfl nb_int ?_
        subst hie
        exact ⟨by rw [cN_of e0 (by omega)], rfl⟩
      · have him : i < n0 := cge_f (by omega) hi c11
        refine x_iload_n dX11_guesses_14 rfl ?_
        refine x_aload_n dX11_guesses_15 rfl ?_
        refine x_callV (k2 := 0) (n2 := 0) dX11_guesses_16 LV_M_168 (r_topNow hx hR.hd) rfl rfl (fxo_127 hx) rfl (Nat.le_of_ble_eq_true rfl) (Nat.le_of_ble_eq_true rfl) (Nat.le_of_ble_eq_true rfl) (Nat.le_of_ble_eq_true rfl) ?_
        rintro _ _ ⟨rfl, rfl⟩
        rw [ht]
        refine x_imul dX11_guesses_19 ?_
        rw [pk_mul, ← Nat.pow_succ]
        refine x_istore_n dX11_guesses_20 (Nat.le_of_ble_eq_true rfl) ?_
        try simp only [xst, xst2, xclr, xset, xwide]
        refine x_iinc (v := (nI (i + 1))) dX11_guesses_21 rfl (nI_1 _) (Nat.le_of_ble_eq_true rfl) ?_
        try simp only [xst, xst2, xclr, xset, xwide]
        refine x_goto (tgt := 4) dX11_guesses_24 rfl ?_
        exact ih4 (i + 1) (by omega) (by omega)
  exact K4 _ 0 (Nat.zero_le _) (Nat.lt_succ_self _)

set_option maxHeartbeats 4000000 in
set_option maxRecDepth 100000 in
theorem r_tellsGuess {g : xG} {nx : Nat} {sh : Nat → Nat × Nat} {P : Nat → Nat → Option Nat} {I : Nat → Nat → Int32} (hx : xFx sh P) {g0 t : Nat} (hR : RI (I 128)) (ht : tpN (I 128) = nI t) (ht1 : 1 ≤ t) (ht9 : t ≤ 9) (hg0 : g0 < 2 ^ 31) : xMet g Y_M_tellsGuess 2 0 0 [.ref 127, .int (nI g0)] (nx, sh, P, I) (fun r σ => ∃ f : Nat → Int32, r = none ∧ σ = (nx, sh, P, va_up I 134 f) ∧ ∀ c, c < cN (I 128) 0 → f c = nI (dg t g0 c)) := by
  refine xMet.of [some (.ref 127), some (.int (nI g0)), none, none, none] (by decide +kernel) (Nat.le_of_ble_eq_true rfl) rfl ?_
  obtain ⟨⟨n0, b0, e0⟩, ⟨n1, b1, e1⟩, ⟨n2, b2, e2⟩, ⟨n3, b3, e3⟩, ⟨n4, b4, e4⟩, ⟨n5, b5, e5⟩, ⟨n6, b6, e6⟩, ⟨n7, b7, e7⟩, ⟨n9, b9, e9⟩⟩ := hR.k
  refine x_iload_n dX11_tellsGuess_0 rfl ?_
  refine x_istore_n dX11_tellsGuess_1 (Nat.le_of_ble_eq_true rfl) ?_
  try simp only [xst, xst2, xclr, xset, xwide]
  refine x_aload_n dX11_tellsGuess_2 rfl ?_
  refine x_callV (k2 := 0) (n2 := 0) dX11_tellsGuess_3 LV_M_168 (r_topNow hx hR.hd) rfl rfl (fxo_127 hx) rfl (Nat.le_of_ble_eq_true rfl) (Nat.le_of_ble_eq_true rfl) (Nat.le_of_ble_eq_true rfl) (Nat.le_of_ble_eq_true rfl) ?_
  rintro _ _ ⟨rfl, rfl⟩
  rw [ht]
  refine x_istore_n dX11_tellsGuess_6 (Nat.le_of_ble_eq_true rfl) ?_
  try simp only [xst, xst2, xclr, xset, xwide]
  refine x_iconst (v := 0) dX11_tellsGuess_7 (by decide) ?_
  refine x_istore dX11_tellsGuess_8 (Nat.le_of_ble_eq_true rfl) ?_
  try simp only [xst, xst2, xclr, xset, xwide]
  skip
  have K10 : ∀ (fuel : Nat) (i : Nat) (f : Nat → Int32) (hi : i ≤ n0) (hf : ∀ c, c < i → f c = nI (dg t g0 c)), n0 - i < fuel → xX g Y_M_tellsGuess 2 0 0 (fun r σ => ∃ f : Nat → Int32, r = none ∧ σ = (nx, sh, P, va_up I 134 f) ∧ ∀ c, c < cN (I 128) 0 → f c = nI (dg t g0 c)) 10 [some (.ref 127), some (.int (nI g0)), some (.int (nI (g0 / t ^ i))), some (.int (nI t)), some (.int (nI i))] [] (nx, sh, P, va_up I 134 f) := by
    intro fuel
    induction fuel with
    | zero => intro i f hi hf hm; exact absurd hm (Nat.not_lt_zero _)
    | succ fuel ih10 =>
      intro i f hi hf hm
      refine x_iload dX11_tellsGuess_10 rfl ?_
      refine x_aload_n dX11_tellsGuess_12 rfl ?_
      refine y_getr dX11_tellsGuess_13 F_M_9 (fxo_127 hx) rfl (fxp_127_1 hx) ?_
      refine x_iconst (v := 0) dX11_tellsGuess_16 (by decide) ?_
      refine y_iaload dX11_tellsGuess_17 (fxk_128 hx) (vi (j := 0) rfl (by omega) (by decide)) (rI (j := 0) rfl ((rdn (by decide)).trans e0)) ?_
      refine x_icmp_ge (tgt := 43) dX11_tellsGuess_18 rfl (fun c18 => ?_) (fun c18 => ?_)
      · have hie : i = n0 := cge_t (by omega) hi c18
        refine x_return dX11_tellsGuess_43 rfl ?_
        subst hie
        exact ⟨f, rfl, rfl, by rw [cN_of e0 (by omega)]; exact hf⟩
      · have him : i < n0 := cge_f (by omega) hi c18
        have hpw := pw_in (i := i) ht1 ht9 (by omega)
        have hgi : g0 / t ^ i < 2 ^ 31 := Nat.lt_of_le_of_lt (Nat.div_le_self _ _) (by omega)
        have htI : ¬ nI t = 0 := nI_ne0 (by omega) (by omega)
        refine x_aload_n dX11_tellsGuess_21 rfl ?_
        refine y_getr dX11_tellsGuess_22 F_M_31 (fxo_127 hx) rfl (fxp_127_13 hx) ?_
        refine x_iload dX11_tellsGuess_25 rfl ?_
        refine x_iconst (v := 1) dX11_tellsGuess_27 (by decide) ?_
        refine x_iload_n dX11_tellsGuess_28 rfl ?_
        refine x_iload_n dX11_tellsGuess_29 rfl ?_
        refine x_irem dX11_tellsGuess_30 htI ?_
        rw [pk_rem hgi (by omega) (by omega)]
        refine x_iadd dX11_tellsGuess_31 ?_
        refine y_iastore dX11_tellsGuess_32 (fxk_134 hx) (vi (j := i) rfl (by omega) (by decide)) (ci (j := i) rfl (by omega)) ?_
        rw [xup_row]
        have hval : (1 : Int32) + nI (g0 / t ^ i % t) = nI (dg t g0 i) := nI_add 1 _
        refine x_iload_n dX11_tellsGuess_33 rfl ?_
        refine x_iload_n dX11_tellsGuess_34 rfl ?_
        refine x_idiv dX11_tellsGuess_35 htI ?_
        rw [pk_div hgi (by omega) (by omega), Nat.div_div_eq_div_mul, ← Nat.pow_succ]
        refine x_istore_n dX11_tellsGuess_36 (Nat.le_of_ble_eq_true rfl) ?_
        try simp only [xst, xst2, xclr, xset, xwide]
        refine x_iinc (v := (nI (i + 1))) dX11_tellsGuess_37 rfl (nI_1 _) (Nat.le_of_ble_eq_true rfl) ?_
        try simp only [xst, xst2, xclr, xset, xwide]
        refine x_goto (tgt := 10) dX11_tellsGuess_40 rfl ?_
        exact ih10 (i + 1) _ (by omega) (fun c hc => by
          unfold upd
          by_cases h : c = i
          · rw [if_pos h, h]; exact hval
          · rw [if_neg h]; exact hf c (by omega)) (by omega)
  refine y_st (I' := va_up I 134 (I 134)) (by rw [va_up_id]) ?_
  have hz0 : g0 / t ^ 0 = g0 := by rw [Nat.pow_zero, Nat.div_one]
  have K10' := K10 _ 0 (I 134) (Nat.zero_le _) (fun c h => absurd h (Nat.not_lt_zero c)) (Nat.lt_succ_self _)
  rw [hz0] at K10'
  exact K10'
