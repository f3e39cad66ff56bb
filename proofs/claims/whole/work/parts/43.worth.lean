/-! worths of the class -/
theorem xCla.mv {nx nx' : Nat} {sh sh' : Nat → Nat × Nat} {P P' : Nat → Nat → Option Nat} {I I' : Nat → Nat → Int32} {cl co : Nat} {d : CL} (h : xCla nx sh P I cl co d) (hn : nx ≤ nx') (he : ∀ a, 144 ≤ a → a < nx → I' a = I a ∧ P' a = P a ∧ sh' a = sh a) : xCla nx' sh' P' I' cl co d := by
  obtain ⟨⟨a1, a2, a3, a4⟩, h2, h3, h4, h5, h6, h7, h8, h9⟩ := h
  obtain ⟨e1, e2, e3⟩ := he cl a1 a2
  obtain ⟨f1, f2, f3⟩ := he co a3 a4
  exact ⟨⟨a1, by omega, a3, by omega⟩, by rw [e3]; exact h2, by rw [e1]; exact h3, by rw [e1]; exact h4, by rw [e2]; exact h5, by rw [f3]; exact h6, h7, fun j hj => by rw [f1]; exact h8 j hj, h9⟩
theorem xLnd.mv {nx nx' : Nat} {sh sh' : Nat → Nat × Nat} {P P' : Nat → Nat → Option Nat} {I I' : Nat → Nat → Int32} {la ar : Nat} {cs : List CL} (h : xLnd nx sh P I la ar cs) (hn : nx ≤ nx') (he : ∀ a, 144 ≤ a → a < nx → I' a = I a ∧ P' a = P a ∧ sh' a = sh a) : xLnd nx' sh' P' I' la ar cs := by
  obtain ⟨⟨a1, a2, a3, a4⟩, h2, h3, h4, h5, h6, h7⟩ := h
  obtain ⟨e1, e2, e3⟩ := he la a1 a2
  obtain ⟨f1, f2, f3⟩ := he ar a3 a4
  refine ⟨⟨a1, by omega, a3, by omega⟩, by rw [e3]; exact h2, by rw [e2]; exact h3, by rw [f3]; exact h4, by rw [e1]; exact h5, h6, fun i hi => ?_⟩
  rw [f2]
  refine ⟨fun d hd => ?_, (h7 i hi).2⟩
  obtain ⟨cl, co, q1, q2⟩ := (h7 i hi).1 d hd
  exact ⟨cl, co, q1, q2.mv hn he⟩
theorem xLd.mv {nx nx' : Nat} {sh sh' : Nat → Nat × Nat} {P P' : Nat → Nat → Option Nat} {I I' : Nat → Nat → Int32} {w : Nat} {s : Nat → Int32} (h : xLd nx sh P I w s) (hn : nx ≤ nx') (hp : P' w 8 = P w 8) (he : ∀ a, 144 ≤ a → a < nx → I' a = I a ∧ P' a = P a ∧ sh' a = sh a) : xLd nx' sh' P' I' w s := by
  rcases h with ⟨h1, h2⟩ | ⟨h1, la, ar, cs, cv, h2, h3, h4⟩
  · exact Or.inl ⟨h1, hp.trans h2⟩
  · exact Or.inr ⟨h1, la, ar, cs, cv, hp.trans h2, h3.mv hn he, h4⟩
/-- what the world does not speak of may change -/
theorem xWN.fr {nx : Nat} {sh : Nat → Nat × Nat} {P : Nat → Nat → Option Nat} {I I' : Nat → Nat → Int32} {s : Nat → Int32} (h : xWN nx sh P I s) (he : ∀ a, (65 ≤ a ∧ a < 80) ∨ 144 ≤ a → I' a = I a) : xWN nx sh P I' s := by
  obtain ⟨⟨t1, t2, t3, t4, t5, t6, t7⟩, c, h7, h9, hL⟩ := h
  refine ⟨⟨t1.other (he _ (by omega)), t2.other (he _ (by omega)), t3.other (he _ (by omega)), t4.other (he _ (by omega)), t5.other (he _ (by omega)), t6.other (he _ (by omega)), t7.other (he _ (by omega))⟩, ?_, by rw [he 65 (by omega)]; exact h7, by rw [he 65 (by omega)]; exact h9, hL.mv (Nat.le_refl _) rfl (fun a h1 _ => ⟨he a (by omega), rfl, rfl⟩)⟩
  unfold xCN
  rw [he 67 (by omega), he 69 (by omega), he 71 (by omega), he 73 (by omega), he 75 (by omega), he 77 (by omega), he 79 (by omega)]
  exact c
theorem xWK.fr {nx : Nat} {sh : Nat → Nat × Nat} {P : Nat → Nat → Option Nat} {I I' : Nat → Nat → Int32} {s : Nat → Int32} (h : xWK nx sh P I s) (he : ∀ a, (81 ≤ a ∧ a < 96) ∨ 144 ≤ a → I' a = I a) : xWK nx sh P I' s := by
  obtain ⟨⟨t1, t2, t3, t4, t5, t6, t7⟩, c, h7, h9, hL⟩ := h
  refine ⟨⟨t1.other (he _ (by omega)), t2.other (he _ (by omega)), t3.other (he _ (by omega)), t4.other (he _ (by omega)), t5.other (he _ (by omega)), t6.other (he _ (by omega)), t7.other (he _ (by omega))⟩, ?_, by rw [he 81 (by omega)]; exact h7, by rw [he 81 (by omega)]; exact h9, hL.mv (Nat.le_refl _) rfl (fun a h1 _ => ⟨he a (by omega), rfl, rfl⟩)⟩
  unfold xCK
  rw [he 83 (by omega), he 85 (by omega), he 87 (by omega), he 89 (by omega), he 91 (by omega), he 93 (by omega), he 95 (by omega)]
  exact c
theorem xWN.va {nx : Nat} {sh : Nat → Nat × Nat} {P : Nat → Nat → Option Nat} {I : Nat → Nat → Int32} {s F : Nat → Int32} {a : Nat} (h : xWN nx sh P I s) (ha : 80 ≤ a ∧ a < 144 := by decide) : xWN nx sh P (va_up I a F) s := h.fr (fun b hb => va_up_no (by omega))
/-- facts are small -/
theorem fa_bd {s : Nat → Int32} (hR : RI s) {c b p dy : Nat} (hc : c < cN s 0) (hb : b ≤ 9) (hp : p ≤ 9) (hd : dy ≤ 20000) : fB (xFa s c (nI b) (nI p) (nI dy)) := by
  have hc4 := hR.c0.2
  obtain ⟨⟨kd, k1, k2⟩, ⟨v, v1, v2⟩, -⟩ := hR.2.2.2.1 c hc
  have e : ∀ n : Nat, n ≤ 1000 → -1000 ≤ (nI n).toInt ∧ (nI n).toInt ≤ 1000 := fun n hn => by rw [nI_toInt (by omega)]; omega
  intro j hj
  match j, hj with
  | 0, _ => exact e c (by omega)
  | 1, _ => show -1000 ≤ (s (10 + c)).toInt ∧ (s (10 + c)).toInt ≤ 1000; rw [k2]; exact e kd (by omega)
  | 2, _ => show -1000 ≤ (s (14 + c)).toInt ∧ (s (14 + c)).toInt ≤ 1000; rw [v2]; exact e v (by omega)
  | 3, _ => exact e b (by omega)
  | 4, _ =>
    show -1000 ≤ (nI dy - nI dy / 10 * 10).toInt ∧ (nI dy - nI dy / 10 * 10).toInt ≤ 1000
    rw [show nI dy - nI dy / 10 * 10 = nI (dy % 10) from pk_rem (d := 10) (by omega) (by decide) (by decide)]
    exact e _ (by omega)
  | 5, _ => exact e p (by omega)
theorem fB.cong {f f' : Nat → Int32} (h : fB f) (e : ∀ j, j < 6 → f' j = f j) : fB f' := fun j hj => by rw [e j hj]; exact h j hj
set_option maxHeartbeats 4000000 in
set_option maxRecDepth 100000 in
theorem m_World_worthAs {g : xG} {nx : Nat} {sh : Nat → Nat × Nat} {P : Nat → Nat → Option Nat} {I : Nat → Nat → Int32} (hx : xFx sh P) {s : Nat → Int32} (hW : xWN nx sh P I s) (hR : RI s) {c : Nat} {base purse day : Int32} (hc : c < cN s 0) {b p dy : Nat} (hb : base = nI b) (hb9 : b ≤ 9) (hp : purse = nI p) (hp9 : p ≤ 9) (hd : day = nI dy) (hdy : dy ≤ 20000) : xMet g Y_World_worthAs 3 0 0 [.ref 65, .int (nI c), .int base, .int purse, .int day] (nx, sh, P, I) (fun r σ => ∃ F : Nat → Int32, r = some (.int (wo s c base purse day)) ∧ σ = (nx, sh, P, va_up I 80 F)) := by
  refine xMet.of [some (.ref 65), some (.int (nI c)), some (.int base), some (.int purse), some (.int day), none, none, none] (by decide +kernel) (Nat.le_of_ble_eq_true rfl) rfl ?_
  obtain ⟨⟨tTape, tCoins, tWares, tBuys, tSlates, tPlans, tBooked⟩, ⟨cTape, cCoins, cWares, cBuys, cSlates, cPlans, cBooked⟩, hW7, hW9, hL⟩ := id hW
  have hc4 := hR.c0.2
  refine x_aload_n dX9_worthAs_0 rfl ?_
  refine x_iload_n dX9_worthAs_1 rfl ?_
  refine x_iload_n dX9_worthAs_2 rfl ?_
  refine x_iload_n dX9_worthAs_3 rfl ?_
  refine x_iload dX9_worthAs_4 rfl ?_
  refine x_callV (k2 := 0) (n2 := 0) dX9_worthAs_6 LV_World_82 (m_World_lookAt hx hW hR (base := base) (purse := purse) (day := day) hc) rfl rfl (fxo_65 hx) rfl (Nat.le_of_ble_eq_true rfl) (Nat.le_of_ble_eq_true rfl) (Nat.le_of_ble_eq_true rfl) (Nat.le_of_ble_eq_true rfl) ?_
  rintro _ _ ⟨F, rfl, rfl, hF⟩
  have J34 : ∀ (z : Int32) (hz : z = base + LK s (xFa s c base purse day)), xX g Y_World_worthAs 3 0 0 (fun r σ => ∃ F : Nat → Int32, r = some (.int (wo s c base purse day)) ∧ σ = (nx, sh, P, va_up I 80 F)) 34 [some (.ref 65), some (.int (nI c)), some (.int base), some (.int purse), some (.int day), none, none, none] [.int z, .int 1] (nx, sh, P, va_up I 80 F) := by
    intro z hz
    refine x_callS (k2 := 0) (n2 := 0) dX9_worthAs_34 LS_World_69 m_max rfl rfl (Nat.le_of_ble_eq_true rfl) (Nat.le_of_ble_eq_true rfl) (Nat.le_of_ble_eq_true rfl) (Nat.le_of_ble_eq_true rfl) ?_
    rintro _ _ ⟨rfl, rfl⟩
    rw [show (if (1 : Int32) ≤ z then z else 1) = on1 z from by unfold on1; grind, hz]
    obtain ⟨pl, hpl⟩ : ∃ pl, pl = on1 (base + LK s (xFa s c base purse day)) := ⟨_, rfl⟩
    rw [← hpl]
    refine x_istore dX9_worthAs_37 (Nat.le_of_ble_eq_true rfl) ?_
    try simp only [xst, xst2, xclr, xset, xwide]
    refine x_aload_n dX9_worthAs_39 rfl ?_
    refine y_getr dX9_worthAs_40 F_World_20 (fxo_65 hx) rfl (fxp_65_1 hx) ?_
    refine x_iload_n dX9_worthAs_43 rfl ?_
    refine x_iconst (v := 1) dX9_worthAs_44 (by decide) ?_
    refine x_callV (k2 := 0) (n2 := 0) dX9_worthAs_45 LV_World_72 (m_Table_get (I := va_up I 80 F) (tCoins.other (va_up_no (by decide))) (x := nI c) (z := nI 1)) rfl rfl (fxo_68 hx) rfl (Nat.le_of_ble_eq_true rfl) (Nat.le_of_ble_eq_true rfl) (Nat.le_of_ble_eq_true rfl) (Nat.le_of_ble_eq_true rfl) ?_
    rintro _ _ ⟨rfl, rfl⟩
    rw [xTg_in (r := c) (k := 1) (by omega) (by decide) (by omega) (by decide), va_up_no (by decide), (cCoins c hc).2.1]
    refine x_iconst (v := 3) dX9_worthAs_48 (by decide) ?_
    refine x_idiv dX9_worthAs_49 (by decide) ?_
    refine x_istore dX9_worthAs_50 (Nat.le_of_ble_eq_true rfl) ?_
    try simp only [xst, xst2, xclr, xset, xwide]
    refine x_iload dX9_worthAs_52 rfl ?_
    refine x_bipush (v := 10) dX9_worthAs_54 (by decide) ?_
    refine x_idiv dX9_worthAs_56 (by decide) ?_
    refine x_istore dX9_worthAs_57 (Nat.le_of_ble_eq_true rfl) ?_
    try simp only [xst, xst2, xclr, xset, xwide]
    refine x_aload_n dX9_worthAs_59 rfl ?_
    refine y_getr dX9_worthAs_60 F_World_20 (fxo_65 hx) rfl (fxp_65_1 hx) ?_
    refine x_iload_n dX9_worthAs_63 rfl ?_
    refine x_iconst (v := 0) dX9_worthAs_64 (by decide) ?_
    refine x_callV (k2 := 0) (n2 := 0) dX9_worthAs_65 LV_World_72 (m_Table_get (I := va_up I 80 F) (tCoins.other (va_up_no (by decide))) (x := nI c) (z := nI 0)) rfl rfl (fxo_68 hx) rfl (Nat.le_of_ble_eq_true rfl) (Nat.le_of_ble_eq_true rfl) (Nat.le_of_ble_eq_true rfl) (Nat.le_of_ble_eq_true rfl) ?_
    rintro _ _ ⟨rfl, rfl⟩
    rw [xTg_in (r := c) (k := 0) (by omega) (by decide) (by omega) (by decide), va_up_no (by decide), (cCoins c hc).1]
    obtain ⟨kd, hkd, hk⟩ := hR.kd hc
    rw [hk]
    rcases (show kd = 0 ∨ kd = 1 ∨ kd = 2 ∨ kd = 3 ∨ kd = 4 ∨ kd = 5 ∨ kd = 6 by omega) with rfl | rfl | rfl | rfl | rfl | rfl | rfl
    · skip
      refine x_tableOut (tgt := 179) dX9_worthAs_68 (by decide) rfl ?_
      refine x_iload dX9_worthAs_179 rfl ?_
      refine x_ireturn dX9_worthAs_181 rfl nb_int ?_
      first | exact ⟨F, by unfold wo; rw [hk, hpl]; rfl, rfl⟩ | exact ⟨F, by unfold wo; rw [hk, hpl, show day - day / 4 * 4 = nI (dy % 4) from by rw [hd]; exact pk_rem (d := 4) (by omega) (by decide) (by decide), nI_clamp (by omega)]; rfl, rfl⟩
    · skip
      refine x_tableIn (off := 40) (tgt := 108) dX9_worthAs_68 (by decide) (by decide) rfl rfl ?_
      refine x_iload dX9_worthAs_108 rfl ?_
      refine x_iload dX9_worthAs_110 rfl ?_
      refine x_iadd dX9_worthAs_112 ?_
      refine x_ireturn dX9_worthAs_113 rfl nb_int ?_
      first | exact ⟨F, by unfold wo; rw [hk, hpl]; rfl, rfl⟩ | exact ⟨F, by unfold wo; rw [hk, hpl, show day - day / 4 * 4 = nI (dy % 4) from by rw [hd]; exact pk_rem (d := 4) (by omega) (by decide) (by decide), nI_clamp (by omega)]; rfl, rfl⟩
    · skip
      refine x_tableIn (off := 46) (tgt := 114) dX9_worthAs_68 (by decide) (by decide) rfl rfl ?_
      refine x_iload dX9_worthAs_114 rfl ?_
      refine x_iconst (v := 1) dX9_worthAs_116 (by decide) ?_
      refine x_callS (k2 := 0) (n2 := 0) dX9_worthAs_117 LS_World_90 m_World_less rfl rfl (Nat.le_of_ble_eq_true rfl) (Nat.le_of_ble_eq_true rfl) (Nat.le_of_ble_eq_true rfl) (Nat.le_of_ble_eq_true rfl) ?_
      rintro _ _ ⟨rfl, rfl⟩
      refine x_ireturn dX9_worthAs_120 rfl nb_int ?_
      first | exact ⟨F, by unfold wo; rw [hk, hpl]; rfl, rfl⟩ | exact ⟨F, by unfold wo; rw [hk, hpl, show day - day / 4 * 4 = nI (dy % 4) from by rw [hd]; exact pk_rem (d := 4) (by omega) (by decide) (by decide), nI_clamp (by omega)]; rfl, rfl⟩
    · skip
      refine x_tableIn (off := 53) (tgt := 121) dX9_worthAs_68 (by decide) (by decide) rfl rfl ?_
      refine x_iload dX9_worthAs_121 rfl ?_
      refine x_iload dX9_worthAs_123 rfl ?_
      refine x_callS (k2 := 0) (n2 := 0) dX9_worthAs_125 LS_World_90 m_World_less rfl rfl (Nat.le_of_ble_eq_true rfl) (Nat.le_of_ble_eq_true rfl) (Nat.le_of_ble_eq_true rfl) (Nat.le_of_ble_eq_true rfl) ?_
      rintro _ _ ⟨rfl, rfl⟩
      refine x_ireturn dX9_worthAs_128 rfl nb_int ?_
      first | exact ⟨F, by unfold wo; rw [hk, hpl]; rfl, rfl⟩ | exact ⟨F, by unfold wo; rw [hk, hpl, show day - day / 4 * 4 = nI (dy % 4) from by rw [hd]; exact pk_rem (d := 4) (by omega) (by decide) (by decide), nI_clamp (by omega)]; rfl, rfl⟩
    · skip
      refine x_tableIn (off := 61) (tgt := 129) dX9_worthAs_68 (by decide) (by decide) rfl rfl ?_
      refine x_iload dX9_worthAs_129 rfl ?_
      refine x_iload dX9_worthAs_131 rfl ?_
      refine x_iadd dX9_worthAs_133 ?_
      refine x_iconst (v := 2) dX9_worthAs_134 (by decide) ?_
      refine x_callS (k2 := 0) (n2 := 0) dX9_worthAs_135 LS_World_90 m_World_less rfl rfl (Nat.le_of_ble_eq_true rfl) (Nat.le_of_ble_eq_true rfl) (Nat.le_of_ble_eq_true rfl) (Nat.le_of_ble_eq_true rfl) ?_
      rintro _ _ ⟨rfl, rfl⟩
      refine x_ireturn dX9_worthAs_138 rfl nb_int ?_
      first | exact ⟨F, by unfold wo; rw [hk, hpl]; rfl, rfl⟩ | exact ⟨F, by unfold wo; rw [hk, hpl, show day - day / 4 * 4 = nI (dy % 4) from by rw [hd]; exact pk_rem (d := 4) (by omega) (by decide) (by decide), nI_clamp (by omega)]; rfl, rfl⟩
    · skip
      refine x_tableIn (off := 71) (tgt := 139) dX9_worthAs_68 (by decide) (by decide) rfl rfl ?_
      refine x_iload dX9_worthAs_139 rfl ?_
      refine x_iconst (v := 5) dX9_worthAs_141 (by decide) ?_
      refine x_icmp_lt (tgt := 149) dX9_worthAs_142 rfl (fun c142 => ?_) (fun c142 => ?_)
      · refine x_iload dX9_worthAs_149 rfl ?_
        refine x_iconst (v := 1) dX9_worthAs_151 (by decide) ?_
        refine x_callS (k2 := 0) (n2 := 0) dX9_worthAs_152 LS_World_90 m_World_less rfl rfl (Nat.le_of_ble_eq_true rfl) (Nat.le_of_ble_eq_true rfl) (Nat.le_of_ble_eq_true rfl) (Nat.le_of_ble_eq_true rfl) ?_
        rintro _ _ ⟨rfl, rfl⟩
        refine x_ireturn dX9_worthAs_155 rfl nb_int ?_
        first | exact ⟨F, by unfold wo; rw [hk, hpl]; show _ = some (Value.int (if (5 : Int32) ≤ day then 1 else _)); rw [if_neg (Int32.not_le.mpr c142)], rfl⟩ | exact ⟨F, by unfold wo; rw [hk]; show _ = some (Value.int (if (5 : Int32) ≤ day then 1 else _)); rw [if_pos (Int32.not_lt.mp c142)], rfl⟩
      · refine x_iconst (v := 1) dX9_worthAs_145 (by decide) ?_
        refine x_goto (tgt := 155) dX9_worthAs_146 rfl ?_
        refine x_ireturn dX9_worthAs_155 rfl nb_int ?_
        first | exact ⟨F, by unfold wo; rw [hk, hpl]; show _ = some (Value.int (if (5 : Int32) ≤ day then 1 else _)); rw [if_neg (Int32.not_le.mpr c142)], rfl⟩ | exact ⟨F, by unfold wo; rw [hk]; show _ = some (Value.int (if (5 : Int32) ≤ day then 1 else _)); rw [if_pos (Int32.not_lt.mp c142)], rfl⟩
    · skip
      refine x_tableIn (off := 88) (tgt := 156) dX9_worthAs_68 (by decide) (by decide) rfl rfl ?_
      refine x_iload dX9_worthAs_156 rfl ?_
      refine x_iload dX9_worthAs_158 rfl ?_
      refine x_callS (k2 := 0) (n2 := 0) dX9_worthAs_160 LS_World_90 m_World_less rfl rfl (Nat.le_of_ble_eq_true rfl) (Nat.le_of_ble_eq_true rfl) (Nat.le_of_ble_eq_true rfl) (Nat.le_of_ble_eq_true rfl) ?_
      rintro _ _ ⟨rfl, rfl⟩
      refine x_aload_n dX9_worthAs_163 rfl ?_
      refine y_getr dX9_worthAs_164 F_World_20 (fxo_65 hx) rfl (fxp_65_1 hx) ?_
      refine x_iload_n dX9_worthAs_167 rfl ?_
      refine x_iconst (v := 4) dX9_worthAs_168 (by decide) ?_
      refine x_iload dX9_worthAs_169 rfl ?_
      refine x_iconst (v := 4) dX9_worthAs_171 (by decide) ?_
      refine x_irem dX9_worthAs_172 (by decide) ?_
      rw [show day - day / 4 * 4 = nI (dy % 4) from by rw [hd]; exact pk_rem (d := 4) (by omega) (by decide) (by decide)]
      refine x_iadd dX9_worthAs_173 ?_
      rw [show (4 : Int32) + nI (dy % 4) = nI (4 + dy % 4) from nI_add 4 _]
      refine x_callV (k2 := 0) (n2 := 0) dX9_worthAs_174 LV_World_72 (m_Table_get (I := va_up I 80 F) (tCoins.other (va_up_no (by decide))) (x := nI c) (z := nI (4 + dy % 4))) rfl rfl (fxo_68 hx) rfl (Nat.le_of_ble_eq_true rfl) (Nat.le_of_ble_eq_true rfl) (Nat.le_of_ble_eq_true rfl) (Nat.le_of_ble_eq_true rfl) ?_
      rintro _ _ ⟨rfl, rfl⟩
      rw [xTg_in (r := c) (k := 4 + dy % 4) (by omega) (by omega) (by omega) (by decide), va_up_no (by decide), (cCoins c hc).2.2.2.2 (dy % 4) (by omega)]
      refine x_iadd dX9_worthAs_177 ?_
      refine x_ireturn dX9_worthAs_178 rfl nb_int ?_
      first | exact ⟨F, by unfold wo; rw [hk, hpl]; rfl, rfl⟩ | exact ⟨F, by unfold wo; rw [hk, hpl, show day - day / 4 * 4 = nI (dy % 4) from by rw [hd]; exact pk_rem (d := 4) (by omega) (by decide) (by decide), nI_clamp (by omega)]; rfl, rfl⟩
  refine x_iconst (v := 1) dX9_worthAs_9 (by decide) ?_
  refine x_aload_n dX9_worthAs_10 rfl ?_
  rcases hL with ⟨h8, hp8⟩ | ⟨h8, la, ar, cs, cv, hp8, hLn, hcs, htop, hcht, hLK⟩
  · skip
    refine y_getrN dX9_worthAs_11 F_World_42 (fxo_65 hx) rfl hp8 ?_
    refine x_ifnonnullN dX9_worthAs_14 ?_
    refine x_iload_n dX9_worthAs_17 rfl ?_
    refine x_goto (tgt := 34) dX9_worthAs_18 rfl ?_
    first | exact J34 _ (by unfold LK; rw [if_pos h8, Int32.add_zero]) | exact J34 _ rfl
  · have hla := hLn.2.1
    refine y_getr dX9_worthAs_11 F_World_42 (fxo_65 hx) rfl hp8 ?_
    refine x_ifnonnull (tgt := 21) rfl dX9_worthAs_14 ?_
    refine x_iload_n dX9_worthAs_21 rfl ?_
    refine x_aload_n dX9_worthAs_22 rfl ?_
    refine y_getr dX9_worthAs_23 F_World_42 (fxo_65 hx) rfl hp8 ?_
    refine x_aload_n dX9_worthAs_26 rfl ?_
    refine y_getr dX9_worthAs_27 F_World_49 (fxo_65 hx) rfl (fxp_65_10 hx) ?_
    refine x_callV (k2 := 0) (n2 := 0) dX9_worthAs_30 LV_World_86 (m_Land_dearer (I := va_up I 80 F) (hLn.mv (Nat.le_refl _) (fun a h1 _ => ⟨va_up_no (by omega), rfl, rfl⟩)) (fxk_80 hx)) rfl rfl hla rfl (Nat.le_of_ble_eq_true rfl) (Nat.le_of_ble_eq_true rfl) (Nat.le_of_ble_eq_true rfl) (Nat.le_of_ble_eq_true rfl) ?_
    rintro _ _ ⟨rfl, rfl⟩
    rw [va_up_at, dlC_e ((show fB (xFa s c base purse day) from by rw [hb, hp, hd]; exact fa_bd hR hc hb9 hp9 hdy).cong hF) hcs, ← hLK, LK_cong hR.lw hF]
    refine x_iadd dX9_worthAs_33 ?_
    first | exact J34 _ (by unfold LK; rw [if_pos h8, Int32.add_zero]) | exact J34 _ rfl

set_option maxHeartbeats 4000000 in
set_option maxRecDepth 100000 in
theorem m_World_worthWith {g : xG} {nx : Nat} {sh : Nat → Nat × Nat} {P : Nat → Nat → Option Nat} {I : Nat → Nat → Int32} (hx : xFx sh P) {s : Nat → Int32} (hW : xWN nx sh P I s) (hR : RI s) {c b : Nat} {base : Int32} (hc : c < cN s 0) (hb : base = nI b) (hb9 : b ≤ 9) : xMet g Y_World_worthWith 4 0 0 [.ref 65, .int (nI c), .int base] (nx, sh, P, I) (fun r σ => ∃ F : Nat → Int32, r = some (.int (wo s c base (s (22 + c)) (s 9))) ∧ σ = (nx, sh, P, va_up I 80 F)) := by
  refine xMet.of [some (.ref 65), some (.int (nI c)), some (.int base)] (by decide +kernel) (Nat.le_of_ble_eq_true rfl) rfl ?_
  obtain ⟨⟨tTape, tCoins, tWares, tBuys, tSlates, tPlans, tBooked⟩, ⟨cTape, cCoins, cWares, cBuys, cSlates, cPlans, cBooked⟩, hW7, hW9, hL⟩ := id hW
  have hc4 := hR.c0.2
  refine x_aload_n dX9_worthWith_0 rfl ?_
  refine x_iload_n dX9_worthWith_1 rfl ?_
  refine x_iload_n dX9_worthWith_2 rfl ?_
  refine x_aload_n dX9_worthWith_3 rfl ?_
  refine y_getr dX9_worthWith_4 F_World_20 (fxo_65 hx) rfl (fxp_65_1 hx) ?_
  refine x_iload_n dX9_worthWith_7 rfl ?_
  refine x_iconst (v := 3) dX9_worthWith_8 (by decide) ?_
  refine x_callV (k2 := 0) (n2 := 0) dX9_worthWith_9 LV_World_72 (m_Table_get tCoins (x := nI c) (z := nI 3)) rfl rfl (fxo_68 hx) rfl (Nat.le_of_ble_eq_true rfl) (Nat.le_of_ble_eq_true rfl) (Nat.le_of_ble_eq_true rfl) (Nat.le_of_ble_eq_true rfl) ?_
  rintro _ _ ⟨rfl, rfl⟩
  rw [xTg_in (r := c) (k := 3) (by omega) (by decide) (by omega) (by decide), (cCoins c hc).2.2.2.1]
  refine x_aload_n dX9_worthWith_12 rfl ?_
  refine y_geti dX9_worthWith_13 F_World_46 (fxo_65 hx) rfl hW9 ?_
  obtain ⟨p, hp9, hp⟩ := pu_of hR hc
  obtain ⟨dy, hdy, hd⟩ := hR.dy
  refine x_callV (k2 := 0) (n2 := 0) dX9_worthWith_16 LV_World_78 (m_World_worthAs hx hW hR hc hb hb9 hp hp9 hd hdy) rfl rfl (fxo_65 hx) rfl (Nat.le_of_ble_eq_true rfl) (Nat.le_of_ble_eq_true rfl) (Nat.le_of_ble_eq_true rfl) (Nat.le_of_ble_eq_true rfl) ?_
  rintro _ _ ⟨F, rfl, rfl⟩
  refine x_ireturn dX9_worthWith_19 rfl nb_int ?_
  exact ⟨F, rfl, rfl⟩

set_option maxHeartbeats 4000000 in
set_option maxRecDepth 100000 in
theorem m_World_worth {g : xG} {nx : Nat} {sh : Nat → Nat × Nat} {P : Nat → Nat → Option Nat} {I : Nat → Nat → Int32} (hx : xFx sh P) {s : Nat → Int32} (hW : xWN nx sh P I s) (hR : RI s) {c : Nat} (hc : c < cN s 0) : xMet g Y_World_worth 5 0 0 [.ref 65, .int (nI c)] (nx, sh, P, I) (fun r σ => ∃ F : Nat → Int32, r = some (.int (wc s c)) ∧ σ = (nx, sh, P, va_up I 80 F)) := by
  refine xMet.of [some (.ref 65), some (.int (nI c))] (by decide +kernel) (Nat.le_of_ble_eq_true rfl) rfl ?_
  obtain ⟨⟨tTape, tCoins, tWares, tBuys, tSlates, tPlans, tBooked⟩, ⟨cTape, cCoins, cWares, cBuys, cSlates, cPlans, cBooked⟩, hW7, hW9, hL⟩ := id hW
  have hc4 := hR.c0.2
  refine x_aload_n dX9_worth_0 rfl ?_
  refine x_iload_n dX9_worth_1 rfl ?_
  refine x_aload_n dX9_worth_2 rfl ?_
  refine y_getr dX9_worth_3 F_World_20 (fxo_65 hx) rfl (fxp_65_1 hx) ?_
  refine x_iload_n dX9_worth_6 rfl ?_
  refine x_iconst (v := 2) dX9_worth_7 (by decide) ?_
  refine x_callV (k2 := 0) (n2 := 0) dX9_worth_8 LV_World_72 (m_Table_get tCoins (x := nI c) (z := nI 2)) rfl rfl (fxo_68 hx) rfl (Nat.le_of_ble_eq_true rfl) (Nat.le_of_ble_eq_true rfl) (Nat.le_of_ble_eq_true rfl) (Nat.le_of_ble_eq_true rfl) ?_
  rintro _ _ ⟨rfl, rfl⟩
  rw [xTg_in (r := c) (k := 2) (by omega) (by decide) (by omega) (by decide), (cCoins c hc).2.2.1]
  obtain ⟨b, hb1, hb9, hb⟩ := (hR.2.2.2.1 c hc).2.2.1
  refine x_callV (k2 := 0) (n2 := 0) dX9_worth_11 LV_World_75 (m_World_worthWith hx hW hR hc hb hb9) rfl rfl (fxo_65 hx) rfl (Nat.le_of_ble_eq_true rfl) (Nat.le_of_ble_eq_true rfl) (Nat.le_of_ble_eq_true rfl) (Nat.le_of_ble_eq_true rfl) ?_
  rintro _ _ ⟨F, rfl, rfl⟩
  refine x_ireturn dX9_worth_14 rfl nb_int ?_
  exact ⟨F, rfl, rfl⟩
