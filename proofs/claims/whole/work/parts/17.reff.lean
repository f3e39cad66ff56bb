/-! the reference: guesses -/
/-- nothing but these fields of the reference has changed -/
def xFd (l : List Nat) (I I1 : Nat → Nat → Int32) : Prop := ∀ j, j ∉ l → I1 127 j = I 127 j
theorem xFd.rf {l : List Nat} {I : Nat → Nat → Int32} : xFd l I I := fun _ _ => rfl
theorem xFd.of {l1 l : List Nat} {I I1 : Nat → Nat → Int32} (h : xFrm l I I1) (h2 : 127 ∉ l := by decide) : xFd l1 I I1 := fun j _ => congrFun (h 127 h2) j
theorem xFd.tr {l l1 l2 : List Nat} {I I1 I2 : Nat → Nat → Int32} (h1 : xFd l1 I I1) (h2 : xFd l2 I1 I2) (hl1 : ∀ b ∈ l1, b ∈ l := by decide) (hl2 : ∀ b ∈ l2, b ∈ l := by decide) : xFd l I I2 := fun b hb => (h2 b (fun z => hb (hl2 b z))).trans (h1 b (fun z => hb (hl1 b z)))
theorem xFdxup {l l1 : List Nat} {I I1 : Nat → Nat → Int32} {k : Nat} {v : Int32} (h1 : xFd l1 I I1) (hk : k ∈ l := by decide) (hl1 : ∀ b ∈ l1, b ∈ l := by decide) : xFd l I (xup I1 127 k v) := fun b hb => by rw [xup_at, if_neg (fun z => hb (by rw [z.2]; exact hk))]; exact h1 b (fun z => hb (hl1 b z))
theorem xFdno {l l1 : List Nat} {I I1 : Nat → Nat → Int32} {a k : Nat} {v : Int32} (h1 : xFd l1 I I1) (ha : a ≠ 127 := by decide) (hl1 : ∀ b ∈ l1, b ∈ l := by decide) : xFd l I (xup I1 a k v) := fun b hb => by rw [xup_n (Ne.symm ha)]; exact h1 b (fun z => hb (hl1 b z))
theorem tlO_bd {s : Nat → Int32} (h : RI s) {w v : Nat} (hv : v ≤ 99) (hw : w = 217 ∨ w = 222) : ∃ t, t ≤ 99 ∧ tlO s w (nI v) = nI t := by
  unfold tlO
  rcases h.hold with z | ⟨a, h1, h2⟩
  · rw [if_pos z]; exact ⟨v, hv, rfl⟩
  · have hb := h.2.1.2.2.1
    have hn : ¬ s 8 = -1 := by rw [h2]; intro z; have := nI_pos (n := a) (by omega); rw [z] at this; exact this (by decide)
    rw [if_neg hn, h2, nI_clamp (by omega)]
    obtain ⟨h5, h6, -⟩ := h.2.2.2.2.1.1 a h1
    rcases hw with rfl | rfl
    · exact h5
    · exact h6
/-- TOP as a natural number -/
theorem tpN_bd {s : Nat → Int32} (h : RI s) : ∃ t, 1 ≤ t ∧ t ≤ 9 ∧ tpN s = nI t := by
  obtain ⟨t, ht, e⟩ := tlO_bd (w := 217) (v := 9) h (by omega) (Or.inl rfl)
  have e : tlO s 217 9 = nI t := e
  unfold tpN
  rw [e]
  by_cases h1 : nI t < 1
  · rw [if_pos h1]; exact ⟨1, by omega, by omega, rfl⟩
  · rw [if_neg h1]
    have h2 : 1 ≤ t := by
      rcases Nat.eq_zero_or_pos t with z | z
      · subst z; exact absurd (by decide) h1
      · exact z
    by_cases h3 : 9 < nI t
    · rw [if_pos h3]; exact ⟨9, by omega, by omega, rfl⟩
    · rw [if_neg h3]
      exact ⟨t, h2, Nat.not_lt.mp (fun z => h3 (nI_lt (a := 9) z (by omega))), rfl⟩
/-- the base that guess number g tells coin c, TOP being t -/
def dg (t g c : Nat) : Nat := 1 + g / t ^ c % t
theorem dg_in {t g c : Nat} (h1 : 1 ≤ t) (h9 : t ≤ 9) : 1 ≤ dg t g c ∧ dg t g c < 10 := by
  unfold dg
  have := Nat.mod_lt (g / t ^ c) (show 0 < t by omega)
  omega
theorem pw_in {t i : Nat} (h1 : 1 ≤ t) (h9 : t ≤ 9) (hi : i ≤ 4) : 1 ≤ t ^ i ∧ t ^ i ≤ 6561 := by
  refine ⟨by have := Nat.pow_le_pow_left (show 1 ≤ t by omega) i; rwa [Nat.one_pow] at this, ?_⟩
  have a1 : t ^ i ≤ t ^ 4 := Nat.pow_le_pow_right (by omega) hi
  have a2 : t ^ 4 ≤ 9 ^ 4 := Nat.pow_le_pow_left h9 4
  have a3 : 9 ^ 4 = 6561 := by decide
  omega
/-- what the first n coins of a BUY are worth by a guess -/
def sbR (s : Nat → Int32) (gv : Nat → Nat) (k : Nat) : Nat → Int32
  | 0 => 0
  | n + 1 => sbR s gv k n + s (53 + 4 * k + n) * wb s n (gv n)
/-- by how much the first n BUYS are dearer by a guess than told, at most -/
def cbR (s : Nat → Int32) (gv : Nat → Nat) : Nat → Int32
  | 0 => 0
  | n + 1 => if sbR s gv n (cN s 0) - s (47 + n) < 0 then 1000000 else if cbR s gv n < sbR s gv n (cN s 0) - s (47 + n) then sbR s gv n (cN s 0) - s (47 + n) else cbR s gv n
/-- the table of worths by bases stands -/
def xBB (I : Nat → Nat → Int32) : Prop := ∀ c w, c < cN (I 128) 0 → 1 ≤ w → w < 10 → I 133 (10 * c + w) = wb (I 128) c w
/-- a guess is written down -/
def xGs (I : Nat → Nat → Int32) (gv : Nat → Nat) : Prop := ∀ c, c < cN (I 128) 0 → I 134 c = nI (gv c) ∧ 1 ≤ gv c ∧ gv c < 10

set_option maxHeartbeats 4000000 in
set_option maxRecDepth 100000 in
theorem r_sumBy {g : xG} {nx : Nat} {sh : Nat → Nat × Nat} {P : Nat → Nat → Option Nat} {I : Nat → Nat → Int32} (hx : xFx sh P) {k : Nat} {gv : Nat → Nat} (hR : RI (I 128)) (hB : xBB I) (hG : xGs I gv) (hk : k < 6) : xMet g Y_M_sumBy 0 0 0 [.ref 127, .int (nI k)] (nx, sh, P, I) (fun r σ => r = some (.int (sbR (I 128) gv k (cN (I 128) 0))) ∧ σ = (nx, sh, P, I)) := by
  refine xMet.of [some (.ref 127), some (.int (nI k)), none, none] (by decide +kernel) (Nat.le_of_ble_eq_true rfl) rfl ?_
  obtain ⟨⟨n0, b0, e0⟩, ⟨n1, b1, e1⟩, ⟨n2, b2, e2⟩, ⟨n3, b3, e3⟩, ⟨n4, b4, e4⟩, ⟨n5, b5, e5⟩, ⟨n6, b6, e6⟩, ⟨n7, b7, e7⟩, ⟨n9, b9, e9⟩⟩ := hR.k
  refine x_iconst (v := 0) dX11_sumBy_0 (by decide) ?_
  refine x_istore_n dX11_sumBy_1 (Nat.le_of_ble_eq_true rfl) ?_
  try simp only [xst, xst2, xclr, xset, xwide]
  refine x_iconst (v := 0) dX11_sumBy_2 (by decide) ?_
  refine x_istore_n dX11_sumBy_3 (Nat.le_of_ble_eq_true rfl) ?_
  try simp only [xst, xst2, xclr, xset, xwide]
  have K4 : ∀ (fuel : Nat) (i : Nat) (a : Int32) (hi : i ≤ n0) (ha : a = sbR (I 128) gv k i), n0 - i < fuel → xX g Y_M_sumBy 0 0 0 (fun r σ => r = some (.int (sbR (I 128) gv k (cN (I 128) 0))) ∧ σ = (nx, sh, P, I)) 4 [some (.ref 127), some (.int (nI k)), some (.int a), some (.int (nI i))] [] (nx, sh, P, I) := by
    intro fuel
    induction fuel with
    | zero => intro i a hi ha hm; exact absurd hm (Nat.not_lt_zero _)
    | succ fuel ih4 =>
      intro i a hi ha hm
      refine x_iload_n dX11_sumBy_4 rfl ?_
      refine x_aload_n dX11_sumBy_5 rfl ?_
      refine y_getr dX11_sumBy_6 F_M_9 (fxo_127 hx) rfl (fxp_127_1 hx) ?_
      refine x_iconst (v := 0) dX11_sumBy_9 (by decide) ?_
      refine y_iaload dX11_sumBy_10 (fxk_128 hx) (vi (j := 0) rfl (by omega) (by decide)) (rI (j := 0) rfl e0) ?_
      refine x_icmp_ge (tgt := 53) dX11_sumBy_11 rfl (fun c11 => ?_) (fun c11 => ?_)
      · have hie : i = n0 := cge_t (by omega) hi c11
        refine x_iload_n dX11_sumBy_53 rfl ?_
        refine x_ireturn dX11_sumBy_54 rfl nb_int ?_
        subst hie
        exact ⟨by rw [cN_of e0 (by omega), ha], rfl⟩
      · have him : i < n0 := cge_f (by omega) hi c11
        have hic : i < cN (I 128) 0 := by rw [cN_of e0 (by omega)]; exact him
        obtain ⟨hg1, hg2, hg3⟩ := hG i hic
        refine x_iload_n dX11_sumBy_14 rfl ?_
        refine x_aload_n dX11_sumBy_15 rfl ?_
        refine y_getr dX11_sumBy_16 F_M_9 (fxo_127 hx) rfl (fxp_127_1 hx) ?_
        refine x_bipush (v := 53) dX11_sumBy_19 (by decide) ?_
        refine x_iconst (v := 4) dX11_sumBy_21 (by decide) ?_
        refine x_iload_n dX11_sumBy_22 rfl ?_
        refine x_imul dX11_sumBy_23 ?_
        refine x_iadd dX11_sumBy_24 ?_
        refine x_iload_n dX11_sumBy_25 rfl ?_
        refine x_iadd dX11_sumBy_26 ?_
        refine y_iaload dX11_sumBy_27 (fxk_128 hx) (vi (j := ((53 + (4 * k)) + i)) (nadd (a := (53 + (4 * k))) (b := i) (nadd (a := 53) (b := (4 * k)) rfl (nmul (a := 4) (b := k) rfl rfl)) rfl) (by omega) (by decide)) (rI (j := ((53 + (4 * k)) + i)) (ci (nadd (a := (53 + (4 * k))) (b := i) (nadd (a := 53) (b := (4 * k)) rfl (nmul (a := 4) (b := k) rfl rfl)) rfl) (by omega)) rfl) ?_
        refine x_aload_n dX11_sumBy_28 rfl ?_
        refine y_getr dX11_sumBy_29 F_M_28 (fxo_127 hx) rfl (fxp_127_12 hx) ?_
        refine x_bipush (v := 10) dX11_sumBy_32 (by decide) ?_
        refine x_iload_n dX11_sumBy_34 rfl ?_
        refine x_imul dX11_sumBy_35 ?_
        refine x_aload_n dX11_sumBy_36 rfl ?_
        refine y_getr dX11_sumBy_37 F_M_31 (fxo_127 hx) rfl (fxp_127_13 hx) ?_
        refine x_iload_n dX11_sumBy_40 rfl ?_
        refine y_iaload dX11_sumBy_41 (fxk_134 hx) (vi (j := i) rfl (by omega) (by decide)) (rI (j := i) (ci rfl (by omega)) hg1) ?_
        refine x_iadd dX11_sumBy_42 ?_
        refine y_iaload dX11_sumBy_43 (fxk_133 hx) (vi (j := ((10 * i) + (gv i))) (nadd (a := (10 * i)) (b := (gv i)) (nmul (a := 10) (b := i) rfl rfl) rfl) (by omega) (by decide)) (rI (j := ((10 * i) + (gv i))) (ci (nadd (a := (10 * i)) (b := (gv i)) (nmul (a := 10) (b := i) rfl rfl) rfl) (by omega)) (hB i (gv i) hic hg2 hg3)) ?_
        refine x_imul dX11_sumBy_44 ?_
        refine x_iadd dX11_sumBy_45 ?_
        refine x_istore_n dX11_sumBy_46 (Nat.le_of_ble_eq_true rfl) ?_
        try simp only [xst, xst2, xclr, xset, xwide]
        refine x_iinc (v := (nI (i + 1))) dX11_sumBy_47 rfl (nI_1 _) (Nat.le_of_ble_eq_true rfl) ?_
        try simp only [xst, xst2, xclr, xset, xwide]
        refine x_goto (tgt := 4) dX11_sumBy_50 rfl ?_
        exact ih4 (i + 1) _ (by omega) (by rw [ha]; rfl) (by omega)
  exact K4 _ 0 0 (Nat.zero_le _) rfl (Nat.lt_succ_self _)

set_option maxHeartbeats 4000000 in
set_option maxRecDepth 100000 in
theorem r_cheatBy {g : xG} {nx : Nat} {sh : Nat → Nat × Nat} {P : Nat → Nat → Option Nat} {I : Nat → Nat → Int32} (hx : xFx sh P) {b : Nat} {gv : Nat → Nat} (hR : RI (I 128)) (hB : xBB I) (hG : xGs I gv) (hb6 : b ≤ 6) : xMet g Y_M_cheatBy 1 0 0 [.ref 127, .int (nI b)] (nx, sh, P, I) (fun r σ => r = some (.int (cbR (I 128) gv b)) ∧ σ = (nx, sh, P, I)) := by
  refine xMet.of [some (.ref 127), some (.int (nI b)), none, none, none] (by decide +kernel) (Nat.le_of_ble_eq_true rfl) rfl ?_
  obtain ⟨⟨n0, b0, e0⟩, ⟨n1, b1, e1⟩, ⟨n2, b2, e2⟩, ⟨n3, b3, e3⟩, ⟨n4, b4, e4⟩, ⟨n5, b5, e5⟩, ⟨n6, b6, e6⟩, ⟨n7, b7, e7⟩, ⟨n9, b9, e9⟩⟩ := hR.k
  refine x_iconst (v := 0) dX11_cheatBy_0 (by decide) ?_
  refine x_istore_n dX11_cheatBy_1 (Nat.le_of_ble_eq_true rfl) ?_
  try simp only [xst, xst2, xclr, xset, xwide]
  refine x_iconst (v := 0) dX11_cheatBy_2 (by decide) ?_
  refine x_istore_n dX11_cheatBy_3 (Nat.le_of_ble_eq_true rfl) ?_
  try simp only [xst, xst2, xclr, xset, xwide]
  have K4 : ∀ (fuel : Nat) (i : Nat) (a : Int32) (v4 : Option Value) (hi : i ≤ b) (ha : a = cbR (I 128) gv i), b - i < fuel → xX g Y_M_cheatBy 1 0 0 (fun r σ => r = some (.int (cbR (I 128) gv b)) ∧ σ = (nx, sh, P, I)) 4 [some (.ref 127), some (.int (nI b)), some (.int a), some (.int (nI i)), v4] [] (nx, sh, P, I) := by
    intro fuel
    induction fuel with
    | zero => intro i a v4 hi ha hm; exact absurd hm (Nat.not_lt_zero _)
    | succ fuel ih4 =>
      intro i a v4 hi ha hm
      refine x_iload_n dX11_cheatBy_4 rfl ?_
      refine x_iload_n dX11_cheatBy_5 rfl ?_
      refine x_icmp_ge (tgt := 55) dX11_cheatBy_6 rfl (fun c6 => ?_) (fun c6 => ?_)
      · have hie : i = b := cge_t (by omega) hi c6
        refine x_iload_n dX11_cheatBy_55 rfl ?_
        refine x_ireturn dX11_cheatBy_56 rfl nb_int ?_
        subst hie
        exact ⟨by rw [ha], rfl⟩
      · have him : i < b := cge_f (by omega) hi c6
        refine x_aload_n dX11_cheatBy_9 rfl ?_
        refine x_iload_n dX11_cheatBy_10 rfl ?_
        refine x_callV (k2 := 0) (n2 := 0) dX11_cheatBy_11 LV_M_177 (r_sumBy (k := i) hx hR hB hG (by omega)) rfl rfl (fxo_127 hx) rfl (Nat.le_of_ble_eq_true rfl) (Nat.le_of_ble_eq_true rfl) (Nat.le_of_ble_eq_true rfl) (Nat.le_of_ble_eq_true rfl) ?_
        rintro _ _ ⟨rfl, rfl⟩
        have hun : cbR (I 128) gv (i + 1) = if sbR (I 128) gv i (cN (I 128) 0) - I 128 (47 + i) < 0 then 1000000 else if cbR (I 128) gv i < sbR (I 128) gv i (cN (I 128) 0) - I 128 (47 + i) then sbR (I 128) gv i (cN (I 128) 0) - I 128 (47 + i) else cbR (I 128) gv i := rfl
        refine x_aload_n dX11_cheatBy_14 rfl ?_
        refine y_getr dX11_cheatBy_15 F_M_9 (fxo_127 hx) rfl (fxp_127_1 hx) ?_
        refine x_bipush (v := 47) dX11_cheatBy_18 (by decide) ?_
        refine x_iload_n dX11_cheatBy_20 rfl ?_
        refine x_iadd dX11_cheatBy_21 ?_
        refine y_iaload dX11_cheatBy_22 (fxk_128 hx) (vi (j := (47 + i)) (nadd (a := 47) (b := i) rfl rfl) (by omega) (by decide)) (rI (j := (47 + i)) (ci (nadd (a := 47) (b := i) rfl rfl) (by omega)) rfl) ?_
        refine x_isub dX11_cheatBy_23 ?_
        refine x_istore dX11_cheatBy_24 (Nat.le_of_ble_eq_true rfl) ?_
        try simp only [xst, xst2, xclr, xset, xwide]
        refine x_iload dX11_cheatBy_26 rfl ?_
        refine x_if_ge (tgt := 36) dX11_cheatBy_28 rfl (fun c28 => ?_) (fun c28 => ?_)
        · refine x_iload dX11_cheatBy_36 rfl ?_
          refine x_iload_n dX11_cheatBy_38 rfl ?_
          refine x_icmp_le (tgt := 47) dX11_cheatBy_39 rfl (fun c39 => ?_) (fun c39 => ?_)
          · refine x_iload_n dX11_cheatBy_47 rfl ?_
            refine x_istore_n dX11_cheatBy_48 (Nat.le_of_ble_eq_true rfl) ?_
            try simp only [xst, xst2, xclr, xset, xwide]
            refine x_iinc (v := (nI (i + 1))) dX11_cheatBy_49 rfl (nI_1 _) (Nat.le_of_ble_eq_true rfl) ?_
            try simp only [xst, xst2, xclr, xset, xwide]
            refine x_goto (tgt := 4) dX11_cheatBy_52 rfl ?_
            exact ih4 (i + 1) _ _ (by omega) (by first | (rw [hun, if_pos (Int32.not_le.mp c28)]) | (rw [hun, if_neg (Int32.not_lt.mpr c28), if_pos (by rw [← ha]; exact Int32.not_le.mp c39)]) | (rw [hun, if_neg (Int32.not_lt.mpr c28), if_neg (by rw [← ha]; exact Int32.not_lt.mpr c39)]; exact ha)) (by omega)
          · refine x_iload dX11_cheatBy_42 rfl ?_
            refine x_goto (tgt := 48) dX11_cheatBy_44 rfl ?_
            refine x_istore_n dX11_cheatBy_48 (Nat.le_of_ble_eq_true rfl) ?_
            try simp only [xst, xst2, xclr, xset, xwide]
            refine x_iinc (v := (nI (i + 1))) dX11_cheatBy_49 rfl (nI_1 _) (Nat.le_of_ble_eq_true rfl) ?_
            try simp only [xst, xst2, xclr, xset, xwide]
            refine x_goto (tgt := 4) dX11_cheatBy_52 rfl ?_
            exact ih4 (i + 1) _ _ (by omega) (by first | (rw [hun, if_pos (Int32.not_le.mp c28)]) | (rw [hun, if_neg (Int32.not_lt.mpr c28), if_pos (by rw [← ha]; exact Int32.not_le.mp c39)]) | (rw [hun, if_neg (Int32.not_lt.mpr c28), if_neg (by rw [← ha]; exact Int32.not_lt.mpr c39)]; exact ha)) (by omega)
        · refine x_ldc dX11_cheatBy_31 KI_X11_180 ?_
          refine x_goto (tgt := 48) dX11_cheatBy_33 rfl ?_
          refine x_istore_n dX11_cheatBy_48 (Nat.le_of_ble_eq_true rfl) ?_
          try simp only [xst, xst2, xclr, xset, xwide]
          refine x_iinc (v := (nI (i + 1))) dX11_cheatBy_49 rfl (nI_1 _) (Nat.le_of_ble_eq_true rfl) ?_
          try simp only [xst, xst2, xclr, xset, xwide]
          refine x_goto (tgt := 4) dX11_cheatBy_52 rfl ?_
          exact ih4 (i + 1) _ _ (by omega) (by first | (rw [hun, if_pos (Int32.not_le.mp c28)]) | (rw [hun, if_neg (Int32.not_lt.mpr c28), if_pos (by rw [← ha]; exact Int32.not_le.mp c39)]) | (rw [hun, if_neg (Int32.not_lt.mpr c28), if_neg (by rw [← ha]; exact Int32.not_lt.mpr c39)]; exact ha)) (by omega)
  exact K4 _ 0 0 none (Nat.zero_le _) rfl (Nat.lt_succ_self _)

set_option maxHeartbeats 4000000 in
set_option maxRecDepth 100000 in
theorem r_guesses {g : xG} {nx : Nat} {sh : Nat → Nat × Nat} {P : Nat → Nat → Option Nat} {I : Nat → Nat → Int32} (hx : xFx sh P) {t : Nat} (hR : RI (I 128)) (ht : tpN (I 128) = nI t) : xMet g Y_M_guesses 2 0 0 [.ref 127] (nx, sh, P, I) (fun r σ => r = some (.int (nI (t ^ cN (I 128) 0))) ∧ σ = (nx, sh, P, I)) := by
  refine xMet.of [some (.ref 127), none, none] (by decide +kernel) (Nat.le_of_ble_eq_true rfl) rfl ?_
  obtain ⟨⟨n0, b0, e0⟩, ⟨n1, b1, e1⟩, ⟨n2, b2, e2⟩, ⟨n3, b3, e3⟩, ⟨n4, b4, e4⟩, ⟨n5, b5, e5⟩, ⟨n6, b6, e6⟩, ⟨n7, b7, e7⟩, ⟨n9, b9, e9⟩⟩ := hR.k
  refine x_iconst (v := 1) dX11_guesses_0 (by decide) ?_
  refine x_istore_n dX11_guesses_1 (Nat.le_of_ble_eq_true rfl) ?_
  try simp only [xst, xst2, xclr, xset, xwide]
  refine x_iconst (v := 0) dX11_guesses_2 (by decide) ?_
  refine x_istore_n dX11_guesses_3 (Nat.le_of_ble_eq_true rfl) ?_
  try simp only [xst, xst2, xclr, xset, xwide]
  have K4 : ∀ (fuel : Nat) (i : Nat) (hi : i ≤ n0), n0 - i < fuel → xX g Y_M_guesses 2 0 0 (fun r σ => r = some (.int (nI (t ^ cN (I 128) 0))) ∧ σ = (nx, sh, P, I)) 4 [some (.ref 127), some (.int (nI (t ^ i))), some (.int (nI i))] [] (nx, sh, P, I) := by
    intro fuel
    induction fuel with
    | zero => intro i hi hm; exact absurd hm (Nat.not_lt_zero _)
    | succ fuel ih4 =>
      intro i hi hm
      refine x_iload_n dX11_guesses_4 rfl ?_
      refine x_aload_n dX11_guesses_5 rfl ?_
      refine y_getr dX11_guesses_6 F_M_9 (fxo_127 hx) rfl (fxp_127_1 hx) ?_
      refine x_iconst (v := 0) dX11_guesses_9 (by decide) ?_
      refine y_iaload dX11_guesses_10 (fxk_128 hx) (vi (j := 0) rfl (by omega) (by decide)) (rI (j := 0) rfl e0) ?_
      refine x_icmp_ge (tgt := 27) dX11_guesses_11 rfl (fun c11 => ?_) (fun c11 => ?_)
      · have hie : i = n0 := cge_t (by omega) hi c11
        refine x_iload_n dX11_guesses_27 rfl ?_
        refine x_ireturn dX11_guesses_28 rfl nb_int ?_
        subst hie
        exact ⟨by rw [cN_of e0 (by omega)], rfl⟩
      · have him : i < n0 := cge_f (by omega) hi c11
        refine x_iload_n dX11_guesses_14 rfl ?_
        refine x_aload_n dX11_guesses_15 rfl ?_
        refine x_callV (k2 := 0) (n2 := 0) dX11_guesses_16 LV_M_168 (r_topNow hx hR.hd) rfl rfl (fxo_127 hx) rfl (Nat.le_of_ble_eq_true rfl) (Nat.le_of_ble_eq_true rfl) (Nat.le_of_ble_eq_true rfl) (Nat.le_of_ble_eq_true rfl) ?_
        rintro _ _ ⟨rfl, rfl⟩
        rw [ht]
        refine x_imul dX11_guesses_19 ?_
        rw [pk_mul, ← Nat.pow_succ]
        refine x_istore_n dX11_guesses_20 (Nat.le_of_ble_eq_true rfl) ?_
        try simp only [xst, xst2, xclr, xset, xwide]
        refine x_iinc (v := (nI (i + 1))) dX11_guesses_21 rfl (nI_1 _) (Nat.le_of_ble_eq_true rfl) ?_
        try simp only [xst, xst2, xclr, xset, xwide]
        refine x_goto (tgt := 4) dX11_guesses_24 rfl ?_
        exact ih4 (i + 1) (by omega) (by omega)
  exact K4 _ 0 (Nat.zero_le _) (Nat.lt_succ_self _)

set_option maxHeartbeats 4000000 in
set_option maxRecDepth 100000 in
theorem r_tellsGuess {g : xG} {nx : Nat} {sh : Nat → Nat × Nat} {P : Nat → Nat → Option Nat} {I : Nat → Nat → Int32} (hx : xFx sh P) {g0 t : Nat} (hR : RI (I 128)) (ht : tpN (I 128) = nI t) (ht1 : 1 ≤ t) (ht9 : t ≤ 9) (hg0 : g0 < 2 ^ 31) : xMet g Y_M_tellsGuess 2 0 0 [.ref 127, .int (nI g0)] (nx, sh, P, I) (fun r σ => ∃ f : Nat → Int32, r = none ∧ σ = (nx, sh, P, va_up I 134 f) ∧ ∀ c, c < cN (I 128) 0 → f c = nI (dg t g0 c)) := by
  refine xMet.of [some (.ref 127), some (.int (nI g0)), none, none, none] (by decide +kernel) (Nat.le_of_ble_eq_true rfl) rfl ?_
  obtain ⟨⟨n0, b0, e0⟩, ⟨n1, b1, e1⟩, ⟨n2, b2, e2⟩, ⟨n3, b3, e3⟩, ⟨n4, b4, e4⟩, ⟨n5, b5, e5⟩, ⟨n6, b6, e6⟩, ⟨n7, b7, e7⟩, ⟨n9, b9, e9⟩⟩ := hR.k
  refine x_iload_n dX11_tellsGuess_0 rfl ?_
  refine x_istore_n dX11_tellsGuess_1 (Nat.le_of_ble_eq_true rfl) ?_
  try simp only [xst, xst2, xclr, xset, xwide]
  refine x_aload_n dX11_tellsGuess_2 rfl ?_
  refine x_callV (k2 := 0) (n2 := 0) dX11_tellsGuess_3 LV_M_168 (r_topNow hx hR.hd) rfl rfl (fxo_127 hx) rfl (Nat.le_of_ble_eq_true rfl) (Nat.le_of_ble_eq_true rfl) (Nat.le_of_ble_eq_true rfl) (Nat.le_of_ble_eq_true rfl) ?_
  rintro _ _ ⟨rfl, rfl⟩
  rw [ht]
  refine x_istore_n dX11_tellsGuess_6 (Nat.le_of_ble_eq_true rfl) ?_
  try simp only [xst, xst2, xclr, xset, xwide]
  refine x_iconst (v := 0) dX11_tellsGuess_7 (by decide) ?_
  refine x_istore dX11_tellsGuess_8 (Nat.le_of_ble_eq_true rfl) ?_
  try simp only [xst, xst2, xclr, xset, xwide]
  skip
  have K10 : ∀ (fuel : Nat) (i : Nat) (f : Nat → Int32) (hi : i ≤ n0) (hf : ∀ c, c < i → f c = nI (dg t g0 c)), n0 - i < fuel → xX g Y_M_tellsGuess 2 0 0 (fun r σ => ∃ f : Nat → Int32, r = none ∧ σ = (nx, sh, P, va_up I 134 f) ∧ ∀ c, c < cN (I 128) 0 → f c = nI (dg t g0 c)) 10 [some (.ref 127), some (.int (nI g0)), some (.int (nI (g0 / t ^ i))), some (.int (nI t)), some (.int (nI i))] [] (nx, sh, P, va_up I 134 f) := by
    intro fuel
    induction fuel with
    | zero => intro i f hi hf hm; exact absurd hm (Nat.not_lt_zero _)
    | succ fuel ih10 =>
      intro i f hi hf hm
      refine x_iload dX11_tellsGuess_10 rfl ?_
      refine x_aload_n dX11_tellsGuess_12 rfl ?_
      refine y_getr dX11_tellsGuess_13 F_M_9 (fxo_127 hx) rfl (fxp_127_1 hx) ?_
      refine x_iconst (v := 0) dX11_tellsGuess_16 (by decide) ?_
      refine y_iaload dX11_tellsGuess_17 (fxk_128 hx) (vi (j := 0) rfl (by omega) (by decide)) (rI (j := 0) rfl ((rdn (by decide)).trans e0)) ?_
      refine x_icmp_ge (tgt := 43) dX11_tellsGuess_18 rfl (fun c18 => ?_) (fun c18 => ?_)
      · have hie : i = n0 := cge_t (by omega) hi c18
        refine x_return dX11_tellsGuess_43 rfl ?_
        subst hie
        exact ⟨f, rfl, rfl, by rw [cN_of e0 (by omega)]; exact hf⟩
      · have him : i < n0 := cge_f (by omega) hi c18
        have hpw := pw_in (i := i) ht1 ht9 (by omega)
        have hgi : g0 / t ^ i < 2 ^ 31 := Nat.lt_of_le_of_lt (Nat.div_le_self _ _) (by omega)
        have htI : ¬ nI t = 0 := nI_ne0 (by omega) (by omega)
        refine x_aload_n dX11_tellsGuess_21 rfl ?_
        refine y_getr dX11_tellsGuess_22 F_M_31 (fxo_127 hx) rfl (fxp_127_13 hx) ?_
        refine x_iload dX11_tellsGuess_25 rfl ?_
        refine x_iconst (v := 1) dX11_tellsGuess_27 (by decide) ?_
        refine x_iload_n dX11_tellsGuess_28 rfl ?_
        refine x_iload_n dX11_tellsGuess_29 rfl ?_
        refine x_irem dX11_tellsGuess_30 htI ?_
        rw [pk_rem hgi (by omega) (by omega)]
        refine x_iadd dX11_tellsGuess_31 ?_
        refine y_iastore dX11_tellsGuess_32 (fxk_134 hx) (vi (j := i) rfl (by omega) (by decide)) (ci (j := i) rfl (by omega)) ?_
        rw [xup_row]
        have hval : (1 : Int32) + nI (g0 / t ^ i % t) = nI (dg t g0 i) := nI_add 1 _
        refine x_iload_n dX11_tellsGuess_33 rfl ?_
        refine x_iload_n dX11_tellsGuess_34 rfl ?_
        refine x_idiv dX11_tellsGuess_35 htI ?_
        rw [pk_div hgi (by omega) (by omega), Nat.div_div_eq_div_mul, ← Nat.pow_succ]
        refine x_istore_n dX11_tellsGuess_36 (Nat.le_of_ble_eq_true rfl) ?_
        try simp only [xst, xst2, xclr, xset, xwide]
        refine x_iinc (v := (nI (i + 1))) dX11_tellsGuess_37 rfl (nI_1 _) (Nat.le_of_ble_eq_true rfl) ?_
        try simp only [xst, xst2, xclr, xset, xwide]
        refine x_goto (tgt := 10) dX11_tellsGuess_40 rfl ?_
        exact ih10 (i + 1) _ (by omega) (fun c hc => by
          unfold upd
          by_cases h : c = i
          · rw [if_pos h, h]; exact hval
          · rw [if_neg h]; exact hf c (by omega)) (by omega)
  refine y_st (I' := va_up I 134 (I 134)) (by rw [va_up_id]) ?_
  have hz0 : g0 / t ^ 0 = g0 := by rw [Nat.pow_zero, Nat.div_one]
  have K10' := K10 _ 0 (I 134) (Nat.zero_le _) (fun c h => absurd h (Nat.not_lt_zero c)) (Nat.lt_succ_self _)
  rw [hz0] at K10'
  exact K10'

theorem xBB.up {I : Nat → Nat → Int32} {a k : Nat} {v : Int32} (h : xBB I) (h1 : a ≠ 133 := by decide) (h2 : a ≠ 128 := by decide) : xBB (xup I a k v) := fun c w hc hw hw9 => by
  rw [xup_n (Ne.symm h1), xup_n (Ne.symm h2)]
  rw [xup_n (Ne.symm h2)] at hc
  exact h c w hc hw hw9
theorem xBB.va {I : Nat → Nat → Int32} {a : Nat} {f : Nat → Int32} (h : xBB I) (h1 : a ≠ 133 := by decide) (h2 : a ≠ 128 := by decide) : xBB (va_up I a f) := fun c w hc hw hw9 => by
  rw [va_up_no (Ne.symm h1), va_up_no (Ne.symm h2)]
  rw [va_up_no (Ne.symm h2)] at hc
  exact h c w hc hw hw9
/-- how many of the first n numbers are so -/
def ctB (p : Nat → Bool) : Nat → Nat
  | 0 => 0
  | n + 1 => ctB p n + if p n = true then 1 else 0
theorem ctB_le {p : Nat → Bool} : ∀ n, ctB p n ≤ n
  | 0 => Nat.le_refl _
  | n + 1 => by
    have := ctB_le (p := p) n
    show ctB p n + (if p n = true then 1 else 0) ≤ n + 1
    by_cases h : p n = true
    · rw [if_pos h]; omega
    · rw [if_neg h]; omega
theorem ctB_t {p : Nat → Bool} {n : Nat} (h : p n = true) : ctB p (n + 1) = ctB p n + 1 := by show ctB p n + (if p n = true then 1 else 0) = _; rw [if_pos h]
theorem ctB_f {p : Nat → Bool} {n : Nat} (h : ¬ p n = true) : ctB p (n + 1) = ctB p n := by show ctB p n + (if p n = true then 1 else 0) = _; rw [if_neg h, Nat.add_zero]
/-- does a guess stand, by the first b BUYS -/
def okG (s : Nat → Int32) (t b g : Nat) : Bool := decide (cbR s (dg t g) b ≤ tlO s 222 0)
/-- does a guess stand that says w of coin c -/
def okW (s : Nat → Int32) (t b c w g : Nat) : Bool := okG s t b g && dg t g c == w
/-- the least cheat of the first n guesses -/
def lcM (s : Nat → Int32) (t b : Nat) : Nat → Int32
  | 0 => 1000000
  | n + 1 => if cbR s (dg t n) b < lcM s t b n then cbR s (dg t n) b else lcM s t b n
theorem okW_t {s : Nat → Int32} {t b c w g : Nat} (h : okG s t b g = true) (h2 : dg t g c = w) : okW s t b c w g = true := by unfold okW; rw [h, h2, Bool.true_and, beq_self_eq_true]
theorem okW_f {s : Nat → Int32} {t b c w g : Nat} (h : ¬ okG s t b g = true) : ¬ okW s t b c w g = true := fun z => h (by unfold okW at z; exact (Bool.and_eq_true _ _ ▸ z).1)
theorem okW_n {s : Nat → Int32} {t b c w g : Nat} (h : ¬ dg t g c = w) : ¬ okW s t b c w g = true := fun z => h (by unfold okW at z; exact beq_iff_eq.mp (Bool.and_eq_true _ _ ▸ z).2)
theorem xFrs {l : List Nat} {I I1 : Nat → Nat → Int32} {a k : Nat} {v : Int32} (h1 : xFrm l I I1) (ha : a ∈ l := by decide) : xFrm l I (xup I1 a k v) := fun b hb => (xup_n (fun z => hb (by rw [z]; exact ha))).trans (h1 b hb)
theorem xFrv {l : List Nat} {I I1 : Nat → Nat → Int32} {a : Nat} {f : Nat → Int32} (h1 : xFrm l I I1) (ha : a ∈ l := by decide) : xFrm l I (va_up I1 a f) := fun b hb => (va_up_no (fun z => hb (by rw [z]; exact ha))).trans (h1 b hb)
theorem xFdx {l : List Nat} {I I1 : Nat → Nat → Int32} {k : Nat} {v : Int32} (h1 : xFd l I I1) (hk : k ∈ l := by decide) : xFd l I (xup I1 127 k v) := fun b hb => by rw [xup_at, if_neg (fun z => hb (by rw [z.2]; exact hk))]; exact h1 b hb
theorem xFdn {l : List Nat} {I I1 : Nat → Nat → Int32} {a k : Nat} {v : Int32} (h1 : xFd l I I1) (ha : a ≠ 127 := by decide) : xFd l I (xup I1 a k v) := fun b hb => by rw [xup_n (Ne.symm ha)]; exact h1 b hb
theorem xFdva {l : List Nat} {I I1 : Nat → Nat → Int32} {a : Nat} {f : Nat → Int32} (h1 : xFd l I I1) (ha : a ≠ 127 := by decide) : xFd l I (va_up I1 a f) := fun b hb => by rw [va_up_no (Ne.symm ha)]; exact h1 b hb
theorem xBB.of0 {I I0 : Nat → Nat → Int32} (h : ∀ c w, c < cN (I 128) 0 → 1 ≤ w → w < 10 → I0 133 (10 * c + w) = wb (I 128) c w) (e : I0 128 = I 128) : xBB I0 := fun c w hc hw hw9 => by rw [e]; rw [e] at hc; exact h c w hc hw hw9

set_option maxHeartbeats 4000000 in
set_option maxRecDepth 100000 in
theorem r_looksForLeft {g : xG} {nx : Nat} {sh : Nat → Nat × Nat} {P : Nat → Nat → Option Nat} {I : Nat → Nat → Int32} (hx : xFx sh P) {b t : Nat} (hR : RI (I 128)) (hb6 : b ≤ 6) (ht : tpN (I 128) = nI t) (ht1 : 1 ≤ t) (ht9 : t ≤ 9) : xMet g Y_M_looksForLeft 4 0 0 [.ref 127, .int (nI b)] (nx, sh, P, I) (fun r σ => ∃ I1 : Nat → Nat → Int32, r = none ∧ σ = (nx, sh, P, I1) ∧ xFrm [127, 130, 131, 133, 134, 135] I I1 ∧ xFd [14, 16] I I1 ∧ xBB I1 ∧ I1 127 14 = nI (ctB (okG (I 128) t b) (t ^ cN (I 128) 0)) ∧ I1 127 16 = lcM (I 128) t b (t ^ cN (I 128) 0) ∧ ∀ c w, c < cN (I 128) 0 → 1 ≤ w → w < 10 → I1 135 (10 * c + w) = nI (ctB (okW (I 128) t b c w) (t ^ cN (I 128) 0))) := by
  refine xMet.of [some (.ref 127), some (.int (nI b)), none, none, none, none] (by decide +kernel) (Nat.le_of_ble_eq_true rfl) rfl ?_
  obtain ⟨⟨n0, b0, e0⟩, ⟨n1, b1, e1⟩, ⟨n2, b2, e2⟩, ⟨n3, b3, e3⟩, ⟨n4, b4, e4⟩, ⟨n5, b5, e5⟩, ⟨n6, b6, e6⟩, ⟨n7, b7, e7⟩, ⟨n9, b9, e9⟩⟩ := hR.k
  have hpb : t ^ cN (I 128) 0 < 2 ^ 31 := by have := (pw_in (i := cN (I 128) 0) ht1 ht9 (by have := hR.c0.2; omega)).2; omega
  refine x_aload_n dX11_looksForLeft_0 rfl ?_
  refine x_callV (k2 := 0) (n2 := 0) dX11_looksForLeft_1 LV_M_181 (r_looksForAll hx hR) rfl rfl (fxo_127 hx) rfl (Nat.le_of_ble_eq_true rfl) (Nat.le_of_ble_eq_true rfl) (Nat.le_of_ble_eq_true rfl) (Nat.le_of_ble_eq_true rfl) ?_
  rintro _ _ ⟨I0, rfl, rfl, hF0, hB0⟩
  have e128 : I0 128 = I 128 := hF0 128 (by decide)
  refine x_aload_n dX11_looksForLeft_4 rfl ?_
  refine x_iconst (v := 0) dX11_looksForLeft_5 (by decide) ?_
  refine x_puti dX11_looksForLeft_6 F_M_184 T_11_14 (fxo_127 hx) rfl rfl rfl ?_
  refine x_aload_n dX11_looksForLeft_9 rfl ?_
  refine x_ldc dX11_looksForLeft_10 KI_X11_180 ?_
  refine x_puti dX11_looksForLeft_12 F_M_187 T_11_16 (fxo_127 hx) rfl rfl rfl ?_
  refine x_iconst (v := 0) dX11_looksForLeft_15 (by decide) ?_
  refine x_istore_n dX11_looksForLeft_16 (Nat.le_of_ble_eq_true rfl) ?_
  try simp only [xst, xst2, xclr, xset, xwide]
  have K17 : ∀ (fuel : Nat) (i : Nat) (I2 : Nat → Nat → Int32) (hi : i ≤ 40) (hF : xFrm [127, 130, 131, 133, 134, 135] I I2) (hD : xFd [14, 16] I I2) (hB : xBB I2) (hl : I2 127 14 = 0) (hc : I2 127 16 = 1000000) (hT : ∀ j, j < i → I2 135 j = 0), 40 - i < fuel → xX g Y_M_looksForLeft 4 0 0 (fun r σ => ∃ I1 : Nat → Nat → Int32, r = none ∧ σ = (nx, sh, P, I1) ∧ xFrm [127, 130, 131, 133, 134, 135] I I1 ∧ xFd [14, 16] I I1 ∧ xBB I1 ∧ I1 127 14 = nI (ctB (okG (I 128) t b) (t ^ cN (I 128) 0)) ∧ I1 127 16 = lcM (I 128) t b (t ^ cN (I 128) 0) ∧ ∀ c w, c < cN (I 128) 0 → 1 ≤ w → w < 10 → I1 135 (10 * c + w) = nI (ctB (okW (I 128) t b c w) (t ^ cN (I 128) 0))) 17 [some (.ref 127), some (.int (nI b)), some (.int (nI i)), none, none, none] [] (nx, sh, P, I2) := by
    intro fuel
    induction fuel with
    | zero => intro i I2 hi hF hD hB hl hc hT hm; exact absurd hm (Nat.not_lt_zero _)
    | succ fuel ih17 =>
      intro i I2 hi hF hD hB hl hc hT hm
      refine x_iload_n dX11_looksForLeft_17 rfl ?_
      refine x_bipush (v := 40) dX11_looksForLeft_18 (by decide) ?_
      refine x_icmp_ge (tgt := 36) dX11_looksForLeft_20 rfl (fun c20 => ?_) (fun c20 => ?_)
      · have hie : i = 40 := cge_t (by decide) hi c20
        subst hie
        have f128 : I2 128 = I 128 := hF 128 (by decide)
        refine x_aload_n dX11_looksForLeft_36 rfl ?_
        refine x_callV (k2 := 0) (n2 := 0) dX11_looksForLeft_37 LV_M_190 (r_guesses (t := t) hx (by rw [f128]; exact hR) (by rw [f128]; exact ht)) rfl rfl (fxo_127 hx) rfl (Nat.le_of_ble_eq_true rfl) (Nat.le_of_ble_eq_true rfl) (Nat.le_of_ble_eq_true rfl) (Nat.le_of_ble_eq_true rfl) ?_
        rintro _ _ ⟨rfl, rfl⟩
        rw [f128]
        refine x_istore_n dX11_looksForLeft_40 (Nat.le_of_ble_eq_true rfl) ?_
        try simp only [xst, xst2, xclr, xset, xwide]
        refine x_iconst (v := 0) dX11_looksForLeft_41 (by decide) ?_
        refine x_istore_n dX11_looksForLeft_42 (Nat.le_of_ble_eq_true rfl) ?_
        try simp only [xst, xst2, xclr, xset, xwide]
        have K43 : ∀ (fuel : Nat) (gi : Nat) (v4 v5 : Option Value) (I3 : Nat → Nat → Int32) (hg : gi ≤ (t ^ cN (I 128) 0)) (hF : xFrm [127, 130, 131, 133, 134, 135] I I3) (hD : xFd [14, 16] I I3) (hB : xBB I3) (hl : I3 127 14 = nI (ctB (okG (I 128) t b) gi)) (hc : I3 127 16 = lcM (I 128) t b gi) (hT : ∀ c w, c < cN (I 128) 0 → 1 ≤ w → w < 10 → I3 135 (10 * c + w) = nI (ctB (okW (I 128) t b c w) gi)), (t ^ cN (I 128) 0) - gi < fuel → xX g Y_M_looksForLeft 4 0 0 (fun r σ => ∃ I1 : Nat → Nat → Int32, r = none ∧ σ = (nx, sh, P, I1) ∧ xFrm [127, 130, 131, 133, 134, 135] I I1 ∧ xFd [14, 16] I I1 ∧ xBB I1 ∧ I1 127 14 = nI (ctB (okG (I 128) t b) (t ^ cN (I 128) 0)) ∧ I1 127 16 = lcM (I 128) t b (t ^ cN (I 128) 0) ∧ ∀ c w, c < cN (I 128) 0 → 1 ≤ w → w < 10 → I1 135 (10 * c + w) = nI (ctB (okW (I 128) t b c w) (t ^ cN (I 128) 0))) 43 [some (.ref 127), some (.int (nI b)), some (.int (nI (t ^ cN (I 128) 0))), some (.int (nI gi)), v4, v5] [] (nx, sh, P, I3) := by
          intro fuel
          induction fuel with
          | zero => intro gi v4 v5 I3 hg hF hD hB hl hc hT hm; exact absurd hm (Nat.not_lt_zero _)
          | succ fuel ih43 =>
            intro gi v4 v5 I3 hg hF hD hB hl hc hT hm
            refine x_iload_n dX11_looksForLeft_43 rfl ?_
            refine x_iload_n dX11_looksForLeft_44 rfl ?_
            refine x_icmp_ge (tgt := 149) dX11_looksForLeft_45 rfl (fun c45 => ?_) (fun c45 => ?_)
            · have hie : gi = (t ^ cN (I 128) 0) := cge_t hpb hg c45
              refine x_return dX11_looksForLeft_149 rfl ?_
              subst hie
              exact ⟨I3, rfl, rfl, hF, hD, hB, hl, hc, hT⟩
            · have hgm : gi < (t ^ cN (I 128) 0) := cge_f hpb hg c45
              have f128 : I3 128 = I 128 := hF 128 (by decide)
              refine x_aload_n dX11_looksForLeft_48 rfl ?_
              refine x_iload_n dX11_looksForLeft_49 rfl ?_
              refine x_callV (k2 := 0) (n2 := 0) dX11_looksForLeft_50 LV_M_193 (r_tellsGuess (g0 := gi) hx (by rw [f128]; exact hR) (by rw [f128]; exact ht) ht1 ht9 (by omega)) rfl rfl (fxo_127 hx) rfl (Nat.le_of_ble_eq_true rfl) (Nat.le_of_ble_eq_true rfl) (Nat.le_of_ble_eq_true rfl) (Nat.le_of_ble_eq_true rfl) ?_
              rintro _ _ ⟨f, rfl, rfl, hf⟩
              have g128 : va_up I3 134 f 128 = I 128 := (va_up_no (by decide)).trans f128
              have hG : xGs (va_up I3 134 f) (dg t gi) := fun c hc => ⟨by rw [va_up_at]; exact hf c (by rw [f128]; rw [g128] at hc; exact hc), (dg_in ht1 ht9).1, (dg_in ht1 ht9).2⟩
              refine x_aload_n dX11_looksForLeft_53 rfl ?_
              refine x_iload_n dX11_looksForLeft_54 rfl ?_
              refine x_callV (k2 := 0) (n2 := 0) dX11_looksForLeft_55 LV_M_196 (r_cheatBy (gv := dg t gi) hx (by rw [g128]; exact hR) hB.va hG hb6) rfl rfl (fxo_127 hx) rfl (Nat.le_of_ble_eq_true rfl) (Nat.le_of_ble_eq_true rfl) (Nat.le_of_ble_eq_true rfl) (Nat.le_of_ble_eq_true rfl) ?_
              rintro _ _ ⟨rfl, rfl⟩
              rw [g128]
              skip
              refine x_istore dX11_looksForLeft_58 (Nat.le_of_ble_eq_true rfl) ?_
              try simp only [xst, xst2, xclr, xset, xwide]
              have J79 : ∀ (x : Int32) (hxv : x = lcM (I 128) t b (gi + 1)), xX g Y_M_looksForLeft 4 0 0 (fun r σ => ∃ I1 : Nat → Nat → Int32, r = none ∧ σ = (nx, sh, P, I1) ∧ xFrm [127, 130, 131, 133, 134, 135] I I1 ∧ xFd [14, 16] I I1 ∧ xBB I1 ∧ I1 127 14 = nI (ctB (okG (I 128) t b) (t ^ cN (I 128) 0)) ∧ I1 127 16 = lcM (I 128) t b (t ^ cN (I 128) 0) ∧ ∀ c w, c < cN (I 128) 0 → 1 ≤ w → w < 10 → I1 135 (10 * c + w) = nI (ctB (okW (I 128) t b c w) (t ^ cN (I 128) 0))) 79 [some (.ref 127), some (.int (nI b)), some (.int (nI (t ^ cN (I 128) 0))), some (.int (nI gi)), some (.int (cbR (I 128) (dg t gi) b)), v5] [.int x, .ref 127] (nx, sh, P, va_up I3 134 f) := by
                intro x hxv
                refine x_puti dX11_looksForLeft_79 F_M_187 T_11_16 (fxo_127 hx) rfl rfl rfl ?_
                have h128 : xup (va_up I3 134 f) 127 16 x 128 = I 128 := (xup_n (by decide)).trans g128
                refine x_iload dX11_looksForLeft_82 rfl ?_
                refine x_aload_n dX11_looksForLeft_84 rfl ?_
                refine x_callV (k2 := 0) (n2 := 0) dX11_looksForLeft_85 LV_M_171 (r_cheatNow (I := xup (va_up I3 134 f) 127 16 x) hx (by rw [h128]; exact hR.hd)) rfl rfl (fxo_127 hx) rfl (Nat.le_of_ble_eq_true rfl) (Nat.le_of_ble_eq_true rfl) (Nat.le_of_ble_eq_true rfl) (Nat.le_of_ble_eq_true rfl) ?_
                rintro _ _ ⟨rfl, rfl⟩
                rw [h128]
                refine x_icmp_gt (tgt := 143) dX11_looksForLeft_88 rfl (fun c88 => ?_) (fun c88 => ?_)
                · have hok : ¬ okG (I 128) t b gi = true := fun z => absurd (of_decide_eq_true z) (Int32.not_le.mpr c88)
                  refine x_iinc (v := (nI (gi + 1))) dX11_looksForLeft_143 rfl (nI_1 _) (Nat.le_of_ble_eq_true rfl) ?_
                  try simp only [xst, xst2, xclr, xset, xwide]
                  refine x_goto (tgt := 43) dX11_looksForLeft_146 rfl ?_
                  first | exact ih43 (gi + 1) _ _ _ (by omega) (xFrs (xFrv hF)) (xFdx (xFdva hD)) (hB.va.up) (by rw [xup_at, if_neg (by decide), va_up_no (by decide), ctB_f hok]; exact hl) (by rw [xup_at, if_pos ⟨rfl, rfl⟩]; exact hxv) (fun c w hc hw hw9 => by rw [xup_n (by decide), va_up_no (by decide), ctB_f (okW_f hok)]; exact hT c w hc hw hw9) (by omega) | exact ih43 (gi + 1) _ _ _ (by omega) hF4 hD4 hB4 hl4 (hc4.trans hxv) (fun q w hq hw hw9 => (hT4 q w hq hw hw9).trans (by rw [if_pos (by rw [cN_of e0 (by omega)] at hq; exact hq)])) (by omega)
                · have hok : okG (I 128) t b gi = true := decide_eq_true (Int32.not_lt.mp c88)
                  have hcl := ctB_le (p := okG (I 128) t b) gi
                  refine x_aload_n dX11_looksForLeft_91 rfl ?_
                  refine x_dup dX11_looksForLeft_92 rfl ?_
                  refine y_geti dX11_looksForLeft_93 F_M_184 (fxo_127 hx) rfl (show xup (va_up I3 134 f) 127 16 x 127 14 = nI (ctB (okG (I 128) t b) gi) by rw [xup_at, if_neg (by decide), va_up_no (by decide)]; exact hl) ?_
                  refine x_iconst (v := 1) dX11_looksForLeft_96 (by decide) ?_
                  refine x_iadd dX11_looksForLeft_97 ?_
                  refine x_puti dX11_looksForLeft_98 F_M_184 T_11_14 (fxo_127 hx) rfl rfl rfl ?_
                  refine x_iconst (v := 0) dX11_looksForLeft_101 (by decide) ?_
                  refine x_istore dX11_looksForLeft_102 (Nat.le_of_ble_eq_true rfl) ?_
                  try simp only [xst, xst2, xclr, xset, xwide]
                  have K104 : ∀ (fuel : Nat) (c : Nat) (I4 : Nat → Nat → Int32) (hci : c ≤ n0) (hF4 : xFrm [127, 130, 131, 133, 134, 135] I I4) (hD4 : xFd [14, 16] I I4) (hB4 : xBB I4) (hG4 : I4 134 = f) (hl4 : I4 127 14 = nI (ctB (okG (I 128) t b) (gi + 1))) (hc4 : I4 127 16 = x) (hT4 : ∀ q w, q < cN (I 128) 0 → 1 ≤ w → w < 10 → I4 135 (10 * q + w) = nI (ctB (okW (I 128) t b q w) (if q < c then gi + 1 else gi))), n0 - c < fuel → xX g Y_M_looksForLeft 4 0 0 (fun r σ => ∃ I1 : Nat → Nat → Int32, r = none ∧ σ = (nx, sh, P, I1) ∧ xFrm [127, 130, 131, 133, 134, 135] I I1 ∧ xFd [14, 16] I I1 ∧ xBB I1 ∧ I1 127 14 = nI (ctB (okG (I 128) t b) (t ^ cN (I 128) 0)) ∧ I1 127 16 = lcM (I 128) t b (t ^ cN (I 128) 0) ∧ ∀ c w, c < cN (I 128) 0 → 1 ≤ w → w < 10 → I1 135 (10 * c + w) = nI (ctB (okW (I 128) t b c w) (t ^ cN (I 128) 0))) 104 [some (.ref 127), some (.int (nI b)), some (.int (nI (t ^ cN (I 128) 0))), some (.int (nI gi)), some (.int (cbR (I 128) (dg t gi) b)), some (.int (nI c))] [] (nx, sh, P, I4) := by
                    intro fuel
                    induction fuel with
                    | zero => intro c I4 hci hF4 hD4 hB4 hG4 hl4 hc4 hT4 hm; exact absurd hm (Nat.not_lt_zero _)
                    | succ fuel ih104 =>
                      intro c I4 hci hF4 hD4 hB4 hG4 hl4 hc4 hT4 hm
                      refine x_iload dX11_looksForLeft_104 rfl ?_
                      have h4 : I4 128 = I 128 := hF4 128 (by decide)
                      refine x_aload_n dX11_looksForLeft_106 rfl ?_
                      refine y_getr dX11_looksForLeft_107 F_M_9 (fxo_127 hx) rfl (fxp_127_1 hx) ?_
                      refine x_iconst (v := 0) dX11_looksForLeft_110 (by decide) ?_
                      refine y_iaload dX11_looksForLeft_111 (fxk_128 hx) (vi (j := 0) rfl (by omega) (by decide)) (rI (j := 0) rfl ((congrFun h4 0).trans e0)) ?_
                      refine x_icmp_ge (tgt := 143) dX11_looksForLeft_112 rfl (fun c112 => ?_) (fun c112 => ?_)
                      · have hie : c = n0 := cge_t (by omega) hci c112
                        subst hie
                        refine x_iinc (v := (nI (gi + 1))) dX11_looksForLeft_143 rfl (nI_1 _) (Nat.le_of_ble_eq_true rfl) ?_
                        try simp only [xst, xst2, xclr, xset, xwide]
                        refine x_goto (tgt := 43) dX11_looksForLeft_146 rfl ?_
                        first | exact ih43 (gi + 1) _ _ _ (by omega) (xFrs (xFrv hF)) (xFdx (xFdva hD)) (hB.va.up) (by rw [xup_at, if_neg (by decide), va_up_no (by decide), ctB_f hok]; exact hl) (by rw [xup_at, if_pos ⟨rfl, rfl⟩]; exact hxv) (fun c w hc hw hw9 => by rw [xup_n (by decide), va_up_no (by decide), ctB_f (okW_f hok)]; exact hT c w hc hw hw9) (by omega) | exact ih43 (gi + 1) _ _ _ (by omega) hF4 hD4 hB4 hl4 (hc4.trans hxv) (fun q w hq hw hw9 => (hT4 q w hq hw hw9).trans (by rw [if_pos (by rw [cN_of e0 (by omega)] at hq; exact hq)])) (by omega)
                      · have him : c < n0 := cge_f (by omega) hci c112
                        have hcc : c < cN (I 128) 0 := by rw [cN_of e0 (by omega)]; exact him
                        have hfc : f c = nI (dg t gi c) := hf c (by rw [f128]; exact hcc)
                        have hd1 := (dg_in (g := gi) (c := c) ht1 ht9).1
                        have hd9 := (dg_in (g := gi) (c := c) ht1 ht9).2
                        refine x_aload_n dX11_looksForLeft_115 rfl ?_
                        refine y_getr dX11_looksForLeft_116 F_M_34 (fxo_127 hx) rfl (fxp_127_15 hx) ?_
                        refine x_bipush (v := 10) dX11_looksForLeft_119 (by decide) ?_
                        refine x_iload dX11_looksForLeft_121 rfl ?_
                        refine x_imul dX11_looksForLeft_123 ?_
                        refine x_aload_n dX11_looksForLeft_124 rfl ?_
                        refine y_getr dX11_looksForLeft_125 F_M_31 (fxo_127 hx) rfl (fxp_127_13 hx) ?_
                        refine x_iload dX11_looksForLeft_128 rfl ?_
                        refine y_iaload dX11_looksForLeft_130 (fxk_134 hx) (vi (j := c) rfl (by omega) (by decide)) (rI (j := c) (ci rfl (by omega)) ((congrFun hG4 _).trans hfc)) ?_
                        refine x_iadd dX11_looksForLeft_131 ?_
                        refine x_dup2 dX11_looksForLeft_132 rfl rfl ?_
                        refine y_iaload dX11_looksForLeft_133 (fxk_135 hx) (vi (j := ((10 * c) + (dg t gi c))) (nadd (a := (10 * c)) (b := (dg t gi c)) (nmul (a := 10) (b := c) rfl rfl) rfl) (by omega) (by decide)) (rI (j := ((10 * c) + (dg t gi c))) (ci (nadd (a := (10 * c)) (b := (dg t gi c)) (nmul (a := 10) (b := c) rfl rfl) rfl) (by omega)) (hT4 c (dg t gi c) hcc hd1 hd9)) ?_
                        refine x_iconst (v := 1) dX11_looksForLeft_134 (by decide) ?_
                        refine x_iadd dX11_looksForLeft_135 ?_
                        refine y_iastore dX11_looksForLeft_136 (fxk_135 hx) (vi (j := ((10 * c) + (dg t gi c))) (nadd (a := (10 * c)) (b := (dg t gi c)) (nmul (a := 10) (b := c) rfl rfl) rfl) (by omega) (by decide)) (ci (j := ((10 * c) + (dg t gi c))) (nadd (a := (10 * c)) (b := (dg t gi c)) (nmul (a := 10) (b := c) rfl rfl) rfl) (by omega)) ?_
                        have hT5 : ∀ q w, q < cN (I 128) 0 → 1 ≤ w → w < 10 → xup I4 135 (10 * c + dg t gi c) (nI (ctB (okW (I 128) t b c (dg t gi c)) (if c < c then gi + 1 else gi)) + 1) 135 (10 * q + w) = nI (ctB (okW (I 128) t b q w) (if q < c + 1 then gi + 1 else gi)) := by
                          intro q w hq hw hw9
                          rw [xup_at, if_neg (Nat.lt_irrefl c)]
                          by_cases h : 10 * q + w = 10 * c + dg t gi c
                          · have hqc : q = c ∧ w = dg t gi c := by omega
                            obtain ⟨rfl, rfl⟩ := hqc
                            rw [if_pos ⟨rfl, rfl⟩, if_pos (by omega), ctB_t (okW_t hok rfl)]
                            exact nI_add _ _
                          · rw [if_neg (fun z => h z.2), hT4 q w hq hw hw9]
                            by_cases h2 : q < c
                            · rw [if_pos h2, if_pos (by omega)]
                            · rw [if_neg h2]
                              by_cases h3 : q = c
                              · subst h3
                                rw [if_pos (by omega), ctB_f (okW_n (fun z => h (by rw [z])))]
                              · rw [if_neg (by omega)]
                        refine x_iinc (v := (nI (c + 1))) dX11_looksForLeft_137 rfl (nI_1 _) (Nat.le_of_ble_eq_true rfl) ?_
                        try simp only [xst, xst2, xclr, xset, xwide]
                        refine x_goto (tgt := 104) dX11_looksForLeft_140 rfl ?_
                        exact ih104 (c + 1) _ (by omega) (xFrs hF4) (xFdn hD4) (hB4.up) (by rw [xup_n (by decide)]; exact hG4) (by rw [xup_n (by decide)]; exact hl4) (by rw [xup_n (by decide)]; exact hc4) hT5 (by omega)
                  exact K104 _ 0 _ (Nat.zero_le _) (xFrs (xFrs (xFrv hF))) (xFdx (xFdx (xFdva hD))) (hB.va.up.up) (by rw [xup_n (by decide), xup_n (by decide), va_up_at]) (by rw [xup_at, if_pos ⟨rfl, rfl⟩, ctB_t hok]; exact nI_add _ _) (by rw [xup_at, if_neg (by decide), xup_at, if_pos ⟨rfl, rfl⟩]) (fun q w hq hw hw9 => by rw [xup_n (by decide), xup_n (by decide), va_up_no (by decide), if_neg (Nat.not_lt_zero _)]; exact hT q w hq hw hw9) (Nat.lt_succ_self _)
              refine x_aload_n dX11_looksForLeft_60 rfl ?_
              refine x_iload dX11_looksForLeft_61 rfl ?_
              refine x_aload_n dX11_looksForLeft_63 rfl ?_
              refine y_geti dX11_looksForLeft_64 F_M_187 (fxo_127 hx) rfl ((congrFun (va_up_no (by decide)) 16).trans hc) ?_
              refine x_icmp_ge (tgt := 75) dX11_looksForLeft_67 rfl (fun c67 => ?_) (fun c67 => ?_)
              · refine x_aload_n dX11_looksForLeft_75 rfl ?_
                refine y_geti dX11_looksForLeft_76 F_M_187 (fxo_127 hx) rfl ((congrFun (va_up_no (by decide)) 16).trans hc) ?_
                exact J79 _ (by show _ = (if cbR (I 128) (dg t gi) b < lcM (I 128) t b gi then cbR (I 128) (dg t gi) b else lcM (I 128) t b gi); first | rw [if_pos (Int32.not_le.mp c67)] | rw [if_neg (Int32.not_lt.mpr c67)])
              · refine x_iload dX11_looksForLeft_70 rfl ?_
                refine x_goto (tgt := 79) dX11_looksForLeft_72 rfl ?_
                exact J79 _ (by show _ = (if cbR (I 128) (dg t gi) b < lcM (I 128) t b gi then cbR (I 128) (dg t gi) b else lcM (I 128) t b gi); first | rw [if_pos (Int32.not_le.mp c67)] | rw [if_neg (Int32.not_lt.mpr c67)])
        exact K43 _ 0 none none I2 (Nat.zero_le _) hF hD hB hl hc (fun c w hc hw hw9 => hT _ (by have := hR.c0.2; omega)) (Nat.lt_succ_self _)
      · have him : i < 40 := cge_f (by decide) hi c20
        refine x_aload_n dX11_looksForLeft_23 rfl ?_
        refine y_getr dX11_looksForLeft_24 F_M_34 (fxo_127 hx) rfl (fxp_127_15 hx) ?_
        refine x_iload_n dX11_looksForLeft_27 rfl ?_
        refine x_iconst (v := 0) dX11_looksForLeft_28 (by decide) ?_
        refine y_iastore dX11_looksForLeft_29 (fxk_135 hx) (vi (j := i) rfl (by omega) (by decide)) (ci (j := i) rfl (by omega)) ?_
        refine x_iinc (v := (nI (i + 1))) dX11_looksForLeft_30 rfl (nI_1 _) (Nat.le_of_ble_eq_true rfl) ?_
        try simp only [xst, xst2, xclr, xset, xwide]
        refine x_goto (tgt := 17) dX11_looksForLeft_33 rfl ?_
        exact ih17 (i + 1) _ (by omega) (xFrs hF) (xFdn hD) hB.up (by rw [xup_n (by decide)]; exact hl) (by rw [xup_n (by decide)]; exact hc) (fun j hj => by
          rw [xup_at]
          by_cases h : j = i
          · rw [if_pos ⟨rfl, h⟩]
          · rw [if_neg (fun z => h z.2)]; exact hT j (by omega)) (by omega)
  exact K17 _ 0 _ (by decide) (xFrs (xFrs (hF0.mono (l := [127, 130, 131, 133, 134, 135])))) (xFdx (xFdx (xFd.of (l1 := [14, 16]) hF0))) ((xBB.of0 hB0 e128).up.up) (by rw [xup_at, if_neg (by decide), xup_at, if_pos ⟨rfl, rfl⟩]) (by rw [xup_at, if_pos ⟨rfl, rfl⟩]) (fun j h => absurd h (Nat.not_lt_zero _)) (Nat.lt_succ_self _)
