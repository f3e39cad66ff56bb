/-! the reference: questions about guesses -/
def tN (s : Nat → Int32) : Nat := (tpN s).toNatClampNeg
/-- how many guesses there are -/
def gN (s : Nat → Int32) : Nat := tN s ^ cN s 0
/-- how many guesses stand by the first b BUYS -/
def ctX (s : Nat → Int32) (b : Nat) : Nat := ctB (okG s (tN s) b) (gN s)
def ctN (s : Nat → Int32) : Nat := ctX s (cN s 3)
def lcN (s : Nat → Int32) : Int32 := lcM s (tN s) (cN s 3) (gN s)
/-- how many guesses stand that tell w of coin c -/
def ctW (s : Nat → Int32) (c w : Nat) : Nat := ctB (okW s (tN s) (cN s 3) c w) (gN s)
theorem tN_of {s : Nat → Int32} {t : Nat} (h9 : t ≤ 9) (h : tpN s = nI t) : tN s = t := by unfold tN; rw [h, nI_clamp (by omega)]
theorem gN_bd {s : Nat → Int32} (h : RI s) : gN s ≤ 6561 := by
  obtain ⟨t, h1, h9, e⟩ := tpN_bd h
  unfold gN
  rw [tN_of h9 e]
  exact (pw_in h1 h9 h.c0.2).2
theorem ctX_bd {s : Nat → Int32} (h : RI s) {b : Nat} : ctX s b ≤ 6561 := Nat.le_trans (ctB_le _) (gN_bd h)
theorem ctN_bd {s : Nat → Int32} (h : RI s) : ctN s ≤ 6561 := ctX_bd h
theorem ctW_bd {s : Nat → Int32} (h : RI s) {c w : Nat} : ctW s c w ≤ 6561 := Nat.le_trans (ctB_le _) (gN_bd h)
def loS (f : Nat → Nat) : Nat → Nat → Int32
  | 0, _ => -5
  | k + 1, w => if 0 < f w then nI w else loS f k (w + 1)
def hiS (f : Nat → Nat) : Nat → Int32
  | 0 => -5
  | w + 1 => if 0 < f (w + 1) then nI (w + 1) else hiS f w
theorem nI_le0 {n : Nat} (h : n < 2 ^ 31) : nI n ≤ 0 ↔ n = 0 := by
  have := nI_leI (a := n) (b := 0) h (by decide)
  constructor
  · intro z; have := this.mp z; omega
  · intro z; exact this.mpr (by omega)
def a_range (s : Nat → Int32) (c w : Int32) : Int32 := if (0 ≤ c ∧ c < s 0) ∧ 0 ≤ w ∧ w ≤ 1 then (if w = 0 then loS (ctW s c.toNatClampNeg) 9 1 else hiS (ctW s c.toNatClampNeg) 9) else -1
def knS (s : Nat → Int32) : Nat → Int32
  | 0 => 0
  | n + 1 => knS s n ||| if 0 < ctN s ∧ loS (ctW s n) 9 1 = hiS (ctW s n) 9 then 1 <<< (nI n &&& 31) else 0
def a_likely (s : Nat → Int32) (c w part : Int32) : Int64 := if (0 ≤ c ∧ c < s 0) ∧ (1 ≤ w ∧ w ≤ 9) ∧ 0 ≤ part ∧ part ≤ 1 then (if ctN s = 0 then -9223372036854775808 else frL (ctW s c.toNatClampNeg w.toNatClampNeg) (ctN s) part) else -9223372036854775808
def wrS (s : Nat → Int32) : Nat → Nat → Int32
  | 0, _ => -5
  | m + 1, k => if ctX s (k + 1) = 0 then nI k else wrS s m (k + 1)
def a_wrong (s : Nat → Int32) : Int32 := wrS s (cN s 3) 0
def a_cheated (s : Nat → Int32) : Int32 := if lcN s ≤ 60 then lcN s else -5
/-- by a guess, how much coin a is worth over coin b -/
def dfG (s : Nat → Int32) (a b g : Nat) : Int32 := wb s a (dg (tN s) g a) - wb s b (dg (tN s) g b)
def moS (s : Nat → Int32) (a b n : Nat) : Nat := ctB (fun g => okG s (tN s) (cN s 3) g && decide (0 < dfG s a b g)) n
def leS (s : Nat → Int32) (a b n : Nat) : Nat := ctB (fun g => okG s (tN s) (cN s 3) g && decide (dfG s a b g < 0)) n
def alS (s : Nat → Int32) (a b n : Nat) : Nat := ctB (fun g => okG s (tN s) (cN s 3) g && decide (dfG s a b g = 0)) n
/-- what a guess adds to a count -/
theorem ctB_and {p : Nat → Bool} {c : Nat → Prop} [∀ n, Decidable (c n)] {n : Nat} (h : p n = true) : ctB (fun g => p g && decide (c g)) (n + 1) = ctB (fun g => p g && decide (c g)) n + if c n then 1 else 0 := by
  show _ + (if (p n && decide (c n)) = true then 1 else 0) = _
  rw [h, Bool.true_and]
  by_cases hc : c n
  · rw [if_pos hc, if_pos (decide_eq_true hc)]
  · rw [if_neg hc, if_neg (by rw [decide_eq_false hc]; decide)]
theorem ctB_nand {p q : Nat → Bool} {n : Nat} (h : ¬ p n = true) : ctB (fun g => p g && q g) (n + 1) = ctB (fun g => p g && q g) n := ctB_f (fun z => h (by have z : (p n && q n) = true := z; exact ((Bool.and_eq_true _ _).mp z).1))
def wstS (s : Nat → Int32) (a b : Nat) : Nat := max (max (moS s a b (gN s)) (leS s a b (gN s))) (alS s a b (gN s))
def a_alike (s : Nat → Int32) (a b : Int32) : Int32 := if (0 ≤ a ∧ a < s 0) ∧ 0 ≤ b ∧ b < s 0 then (if a = b then -2 else if 0 < alS s a.toNatClampNeg b.toNatClampNeg (gN s) ∧ moS s a.toNatClampNeg b.toNatClampNeg (gN s) = 0 ∧ leS s a.toNatClampNeg b.toNatClampNeg (gN s) = 0 then 1 else 0) else -1
/-- HOLD: one pair more -/
def hdT (s : Nat → Int32) (i j : Nat) (p : Int32 × Int32) : Int32 × Int32 := if p.1 = -5 ∨ nI (wstS s i j) < p.2 then (nI (10 * i + j), nI (wstS s i j)) else p
def hdJ (s : Nat → Int32) (i : Nat) (p : Int32 × Int32) : Nat → Int32 × Int32
  | 0 => p
  | k + 1 => hdT s i (i + 1 + k) (hdJ s i p k)
def hdI (s : Nat → Int32) : Nat → Int32 × Int32
  | 0 => (-5, -5)
  | i + 1 => hdJ s i (hdI s i) (if 0 < ctN s then cN s 0 - (i + 1) else 0)
def a_hold (s : Nat → Int32) (w : Int32) : Int32 := if 0 ≤ w ∧ w ≤ 1 then (if w = 0 then (hdI s (cN s 0)).1 else (hdI s (cN s 0)).2) else -1
/-- what looking for the guesses left leaves -/
def xLF (I I1 : Nat → Nat → Int32) (b : Nat) : Prop := xFrm [127, 130, 131, 133, 134, 135] I I1 ∧ xFd [14, 16] I I1 ∧ xBB I1 ∧ I1 127 14 = nI (ctX (I 128) b) ∧ I1 127 16 = lcM (I 128) (tN (I 128)) b (gN (I 128)) ∧ ∀ c w, c < cN (I 128) 0 → 1 ≤ w → w < 10 → I1 135 (10 * c + w) = nI (ctB (okW (I 128) (tN (I 128)) b c w) (gN (I 128)))
/-- a contract's end may be weakened -/
theorem xMet.po {g : xG} {y : xY} {d k n : Nat} {vs : List Value} {σ : xS} {Q Q' : Option Value → xS → Prop} (h : xMet g y d k n vs σ Q) (hq : ∀ r σ', Q r σ' → Q' r σ') : xMet g y d k n vs σ Q' := by
  intro p e h1 h2 h3 s m args below h4 h5 h6 h7
  obtain ⟨nn, o, w1, w2, w3, w4, L, w5⟩ := h p e h1 h2 h3 s m args below h4 h5 h6 h7
  obtain ⟨r, σ', e1, e2, e3⟩ := w4
  exact ⟨nn, o, w1, w2, w3, ⟨r, σ', e1, hq r σ' e2, e3⟩, L, w5⟩
theorem r_left_b {g : xG} {nx : Nat} {sh : Nat → Nat × Nat} {P : Nat → Nat → Option Nat} {I : Nat → Nat → Int32} (hx : xFx sh P) (hR : RI (I 128)) {b : Nat} (hb6 : b ≤ 6) : xMet g Y_M_looksForLeft 4 0 0 [.ref 127, .int (nI b)] (nx, sh, P, I) (fun r σ => ∃ I1 : Nat → Nat → Int32, r = none ∧ σ = (nx, sh, P, I1) ∧ xLF I I1 b) := by
  obtain ⟨t, h1, h9, e⟩ := tpN_bd hR
  have hm := r_looksForLeft (g := g) (nx := nx) hx hR hb6 e h1 h9
  refine xMet.po hm ?_
  rintro r σ ⟨I1, h2, h3, h4, h5, h6, h7, h8, h10⟩
  refine ⟨I1, h2, h3, h4, h5, h6, ?_, ?_, ?_⟩
  · unfold ctX gN; rw [tN_of h9 e]; exact h7
  · unfold gN; rw [tN_of h9 e]; exact h8
  · unfold gN; rw [tN_of h9 e]; exact h10

set_option maxHeartbeats 4000000 in
set_option maxRecDepth 100000 in
theorem r_looksForLeftNow {g : xG} {nx : Nat} {sh : Nat → Nat × Nat} {P : Nat → Nat → Option Nat} {I : Nat → Nat → Int32} (hx : xFx sh P) (hR : RI (I 128)) : xMet g Y_M_looksForLeftNow 5 0 0 [.ref 127] (nx, sh, P, I) (fun r σ => ∃ I1 : Nat → Nat → Int32, r = none ∧ σ = (nx, sh, P, I1) ∧ xLF I I1 (cN (I 128) 3)) := by
  refine xMet.of [some (.ref 127)] (by decide +kernel) (Nat.le_of_ble_eq_true rfl) rfl ?_
  obtain ⟨⟨n0, b0, e0⟩, ⟨n1, b1, e1⟩, ⟨n2, b2, e2⟩, ⟨n3, b3, e3⟩, ⟨n4, b4, e4⟩, ⟨n5, b5, e5⟩, ⟨n6, b6, e6⟩, ⟨n7, b7, e7⟩, ⟨n9, b9, e9⟩⟩ := hR.k
  refine x_aload_n dX11_looksForLeftNow_0 rfl ?_
  refine x_aload_n dX11_looksForLeftNow_1 rfl ?_
  refine y_getr dX11_looksForLeftNow_2 F_M_9 (fxo_127 hx) rfl (fxp_127_1 hx) ?_
  refine x_iconst (v := 3) dX11_looksForLeftNow_5 (by decide) ?_
  refine y_iaload dX11_looksForLeftNow_6 (fxk_128 hx) (vi (j := 3) rfl (by omega) (by decide)) (rI (j := 3) (ci rfl (by omega)) e3) ?_
  refine x_callV (k2 := 0) (n2 := 0) dX11_looksForLeftNow_7 LV_M_199 (r_left_b (b := n3) hx hR (by omega)) rfl rfl (fxo_127 hx) rfl (Nat.le_of_ble_eq_true rfl) (Nat.le_of_ble_eq_true rfl) (Nat.le_of_ble_eq_true rfl) (Nat.le_of_ble_eq_true rfl) ?_
  rintro _ _ ⟨I1, rfl, rfl, h⟩
  refine x_return dX11_looksForLeftNow_10 rfl ?_
  exact ⟨I1, rfl, rfl, by rw [cN_of e3 (by omega)]; exact h⟩

set_option maxHeartbeats 4000000 in
set_option maxRecDepth 100000 in
theorem r_left {g : xG} {nx : Nat} {sh : Nat → Nat × Nat} {P : Nat → Nat → Option Nat} {I : Nat → Nat → Int32} (hx : xFx sh P) (hR : RI (I 128)) : xMet g Y_M_left 6 0 0 [.ref 127] (nx, sh, P, I) (fun r σ => ∃ I1 : Nat → Nat → Int32, r = some (.int (nI (ctN (I 128)))) ∧ σ = (nx, sh, P, I1) ∧ xFrm [127, 130, 131, 133, 134, 135] I I1) := by
  refine xMet.of [some (.ref 127)] (by decide +kernel) (Nat.le_of_ble_eq_true rfl) rfl ?_
  refine x_aload_n dX11_left_0 rfl ?_
  refine x_callV (k2 := 0) (n2 := 0) dX11_left_1 LV_M_202 (r_looksForLeftNow hx hR) rfl rfl (fxo_127 hx) rfl (Nat.le_of_ble_eq_true rfl) (Nat.le_of_ble_eq_true rfl) (Nat.le_of_ble_eq_true rfl) (Nat.le_of_ble_eq_true rfl) ?_
  rintro _ _ ⟨I1, rfl, rfl, hF, hD, hB, hl, hc, hT⟩
  have e128 : I1 128 = I 128 := hF 128 (by decide)
  have hct := ctN_bd hR
  refine x_aload_n dX11_left_4 rfl ?_
  refine y_geti dX11_left_5 F_M_184 (fxo_127 hx) rfl hl ?_
  refine x_ireturn dX11_left_8 rfl nb_int ?_
  exact ⟨I1, rfl, rfl, hF⟩

set_option maxHeartbeats 4000000 in
set_option maxRecDepth 100000 in
theorem r_lowOf {g : xG} {nx : Nat} {sh : Nat → Nat × Nat} {P : Nat → Nat → Option Nat} {I : Nat → Nat → Int32} (hx : xFx sh P) {c : Nat} {f : Nat → Nat} (hc4 : c < 4) (hT : ∀ w, 1 ≤ w → w < 10 → I 135 (10 * c + w) = nI (f w)) (hf : ∀ w, f w < 2 ^ 31) : xMet g Y_M_lowOf 0 0 0 [.ref 127, .int (nI c)] (nx, sh, P, I) (fun r σ => r = some (.int (loS f 9 1)) ∧ σ = (nx, sh, P, I)) := by
  refine xMet.of [some (.ref 127), some (.int (nI c)), none] (by decide +kernel) (Nat.le_of_ble_eq_true rfl) rfl ?_
  refine x_iconst (v := 1) dX11_lowOf_0 (by decide) ?_
  refine x_istore_n dX11_lowOf_1 (Nat.le_of_ble_eq_true rfl) ?_
  try simp only [xst, xst2, xclr, xset, xwide]
  have K2 : ∀ (fuel : Nat) (w : Nat) (hw1 : 1 ≤ w) (hw : w ≤ 10) (ha : loS f (10 - w) w = loS f 9 1), 10 - w < fuel → xX g Y_M_lowOf 0 0 0 (fun r σ => r = some (.int (loS f 9 1)) ∧ σ = (nx, sh, P, I)) 2 [some (.ref 127), some (.int (nI c)), some (.int (nI w))] [] (nx, sh, P, I) := by
    intro fuel
    induction fuel with
    | zero => intro w hw1 hw ha hm; exact absurd hm (Nat.not_lt_zero _)
    | succ fuel ih2 =>
      intro w hw1 hw ha hm
      refine x_iload_n dX11_lowOf_2 rfl ?_
      refine x_bipush (v := 10) dX11_lowOf_3 (by decide) ?_
      refine x_icmp_ge (tgt := 30) dX11_lowOf_5 rfl (fun c5 => ?_) (fun c5 => ?_)
      · have hie : w = 10 := cge_t (by decide) hw c5
        subst hie
        refine x_bipush (v := (-5)) dX11_lowOf_30 (by decide) ?_
        refine x_ireturn dX11_lowOf_32 rfl nb_int ?_
        exact ⟨by rw [← ha]; rfl, rfl⟩
      · have him : w < 10 := cge_f (by decide) hw c5
        have hun : loS f (10 - w) w = if 0 < f w then nI w else loS f (10 - (w + 1)) (w + 1) := by rw [show 10 - w = (10 - (w + 1)) + 1 by omega]; rfl
        refine x_aload_n dX11_lowOf_8 rfl ?_
        refine y_getr dX11_lowOf_9 F_M_34 (fxo_127 hx) rfl (fxp_127_15 hx) ?_
        refine x_bipush (v := 10) dX11_lowOf_12 (by decide) ?_
        refine x_iload_n dX11_lowOf_14 rfl ?_
        refine x_imul dX11_lowOf_15 ?_
        refine x_iload_n dX11_lowOf_16 rfl ?_
        refine x_iadd dX11_lowOf_17 ?_
        refine y_iaload dX11_lowOf_18 (fxk_135 hx) (vi (j := ((10 * c) + w)) (nadd (a := (10 * c)) (b := w) (nmul (a := 10) (b := c) rfl rfl) rfl) (by omega) (by decide)) (rI (j := ((10 * c) + w)) (ci (nadd (a := (10 * c)) (b := w) (nmul (a := 10) (b := c) rfl rfl) rfl) (by omega)) (hT w hw1 him)) ?_
        refine x_if_le (tgt := 24) dX11_lowOf_19 rfl (fun c19 => ?_) (fun c19 => ?_)
        · refine x_iinc (v := (nI (w + 1))) dX11_lowOf_24 rfl (nI_1 _) (Nat.le_of_ble_eq_true rfl) ?_
          try simp only [xst, xst2, xclr, xset, xwide]
          refine x_goto (tgt := 2) dX11_lowOf_27 rfl ?_
          exact ih2 (w + 1) (by omega) (by omega) (by rw [← ha, hun, if_neg (fun z => by have := (nI_le0 (hf w)).mp c19; omega)]) (by omega)
        · refine x_iload_n dX11_lowOf_22 rfl ?_
          refine x_ireturn dX11_lowOf_23 rfl nb_int ?_
          exact ⟨by rw [← ha, hun, if_pos (by rcases Nat.eq_zero_or_pos (f w) with z | z; exact absurd ((nI_le0 (hf w)).mpr z) c19; exact z)], rfl⟩
  exact K2 _ 1 (by decide) (by decide) rfl (Nat.lt_succ_self _)

set_option maxHeartbeats 4000000 in
set_option maxRecDepth 100000 in
theorem r_highOf {g : xG} {nx : Nat} {sh : Nat → Nat × Nat} {P : Nat → Nat → Option Nat} {I : Nat → Nat → Int32} (hx : xFx sh P) {c : Nat} {f : Nat → Nat} (hc4 : c < 4) (hT : ∀ w, 1 ≤ w → w < 10 → I 135 (10 * c + w) = nI (f w)) (hf : ∀ w, f w < 2 ^ 31) : xMet g Y_M_highOf 0 0 0 [.ref 127, .int (nI c)] (nx, sh, P, I) (fun r σ => r = some (.int (hiS f 9)) ∧ σ = (nx, sh, P, I)) := by
  refine xMet.of [some (.ref 127), some (.int (nI c)), none] (by decide +kernel) (Nat.le_of_ble_eq_true rfl) rfl ?_
  refine x_bipush (v := 9) dX11_highOf_0 (by decide) ?_
  refine x_istore_n dX11_highOf_2 (Nat.le_of_ble_eq_true rfl) ?_
  try simp only [xst, xst2, xclr, xset, xwide]
  have K3 : ∀ (fuel : Nat) (w : Nat) (hw : w ≤ 9) (ha : hiS f w = hiS f 9), w < fuel → xX g Y_M_highOf 0 0 0 (fun r σ => r = some (.int (hiS f 9)) ∧ σ = (nx, sh, P, I)) 3 [some (.ref 127), some (.int (nI c)), some (.int (nI w))] [] (nx, sh, P, I) := by
    intro fuel
    induction fuel with
    | zero => intro w hw ha hm; exact absurd hm (Nat.not_lt_zero _)
    | succ fuel ih3 =>
      intro w hw ha hm
      refine x_iload_n dX11_highOf_3 rfl ?_
      refine x_if_le (tgt := 29) dX11_highOf_4 rfl (fun c4 => ?_) (fun c4 => ?_)
      · have hie : w = 0 := (nI_le0 (by omega)).mp c4
        subst hie
        refine x_bipush (v := (-5)) dX11_highOf_29 (by decide) ?_
        refine x_ireturn dX11_highOf_31 rfl nb_int ?_
        exact ⟨by rw [← ha]; rfl, rfl⟩
      · obtain ⟨w', rfl⟩ : ∃ w', w = w' + 1 := by
          rcases w with _ | w'
          · exact absurd ((nI_le0 (by decide)).mpr rfl) c4
          · exact ⟨w', rfl⟩
        refine x_aload_n dX11_highOf_7 rfl ?_
        refine y_getr dX11_highOf_8 F_M_34 (fxo_127 hx) rfl (fxp_127_15 hx) ?_
        refine x_bipush (v := 10) dX11_highOf_11 (by decide) ?_
        refine x_iload_n dX11_highOf_13 rfl ?_
        refine x_imul dX11_highOf_14 ?_
        refine x_iload_n dX11_highOf_15 rfl ?_
        refine x_iadd dX11_highOf_16 ?_
        refine y_iaload dX11_highOf_17 (fxk_135 hx) (vi (j := ((10 * c) + (w' + 1))) (nadd (a := (10 * c)) (b := (w' + 1)) (nmul (a := 10) (b := c) rfl rfl) rfl) (by omega) (by decide)) (rI (j := ((10 * c) + (w' + 1))) (ci (nadd (a := (10 * c)) (b := (w' + 1)) (nmul (a := 10) (b := c) rfl rfl) rfl) (by omega)) (hT (w' + 1) (by omega) (by omega))) ?_
        refine x_if_le (tgt := 23) dX11_highOf_18 rfl (fun c18 => ?_) (fun c18 => ?_)
        · refine x_iinc (v := (nI w')) dX11_highOf_23 rfl (i_m1.trans (nI_pred _)) (Nat.le_of_ble_eq_true rfl) ?_
          try simp only [xst, xst2, xclr, xset, xwide]
          refine x_goto (tgt := 3) dX11_highOf_26 rfl ?_
          exact ih3 w' (by omega) (by rw [← ha]; show _ = (if 0 < f (w' + 1) then nI (w' + 1) else hiS f w'); rw [if_neg (fun z => by have := (nI_le0 (hf _)).mp c18; omega)]) (by omega)
        · refine x_iload_n dX11_highOf_21 rfl ?_
          refine x_ireturn dX11_highOf_22 rfl nb_int ?_
          exact ⟨by rw [← ha]; show _ = some (Value.int (if 0 < f (w' + 1) then nI (w' + 1) else hiS f w')); rw [if_pos (by rcases Nat.eq_zero_or_pos (f (w' + 1)) with z | z; exact absurd ((nI_le0 (hf _)).mpr z) c18; exact z)], rfl⟩
  exact K3 _ 9 (by decide) rfl (Nat.lt_succ_self _)

set_option maxHeartbeats 4000000 in
set_option maxRecDepth 100000 in
theorem r_range {g : xG} {nx : Nat} {sh : Nat → Nat × Nat} {P : Nat → Nat → Option Nat} {I : Nat → Nat → Int32} (hx : xFx sh P) {c w : Int32} (hR : RI (I 128)) : xMet g Y_M_range 6 0 0 [.ref 127, .int c, .int w] (nx, sh, P, I) (fun r σ => ∃ I1 : Nat → Nat → Int32, r = some (.int (a_range (I 128) c w)) ∧ σ = (nx, sh, P, I1) ∧ xFrm [127, 130, 131, 133, 134, 135] I I1) := by
  refine xMet.of [some (.ref 127), some (.int c), some (.int w)] (by decide +kernel) (Nat.le_of_ble_eq_true rfl) rfl ?_
  obtain ⟨⟨n0, b0, e0⟩, ⟨n1, b1, e1⟩, ⟨n2, b2, e2⟩, ⟨n3, b3, e3⟩, ⟨n4, b4, e4⟩, ⟨n5, b5, e5⟩, ⟨n6, b6, e6⟩, ⟨n7, b7, e7⟩, ⟨n9, b9, e9⟩⟩ := hR.k
  refine x_aload_n dX11_range_0 rfl ?_
  refine x_iload_n dX11_range_1 rfl ?_
  refine x_callV (k2 := 0) (n2 := 0) dX11_range_2 LV_M_161 (r_isCoin hx hR.nn0) rfl rfl (fxo_127 hx) rfl (Nat.le_of_ble_eq_true rfl) (Nat.le_of_ble_eq_true rfl) (Nat.le_of_ble_eq_true rfl) (Nat.le_of_ble_eq_true rfl) ?_
  rintro _ _ ⟨rfl, rfl⟩
  refine x_if_eq (tgt := 17) dX11_range_5 rfl (fun c5 => ?_) (fun c5 => ?_)
  · refine x_iconst (v := (-1)) dX11_range_17 (by decide) ?_
    refine x_ireturn dX11_range_18 rfl nb_int ?_
    exact ⟨I, by unfold a_range; rw [if_neg (fun h => by grind)], rfl, xFrm.rf⟩
  · refine x_iload_n dX11_range_8 rfl ?_
    refine x_iconst (v := 0) dX11_range_9 (by decide) ?_
    refine x_iconst (v := 1) dX11_range_10 (by decide) ?_
    refine x_callS (k2 := 0) (n2 := 0) dX11_range_11 LS_M_65 r_in rfl rfl (Nat.le_of_ble_eq_true rfl) (Nat.le_of_ble_eq_true rfl) (Nat.le_of_ble_eq_true rfl) (Nat.le_of_ble_eq_true rfl) ?_
    rintro _ _ ⟨rfl, rfl⟩
    refine x_if_ne (tgt := 19) dX11_range_14 rfl (fun c14 => ?_) (fun c14 => ?_)
    · obtain ⟨q, hq, rfl⟩ := i_2 (n := n0) (by omega) (by rw [← e0]; exact b_t c5)
      have hqc : q < cN (I 128) 0 := by rw [cN_of e0 (by omega)]; exact hq
      refine x_aload_n dX11_range_19 rfl ?_
      refine x_callV (k2 := 0) (n2 := 0) dX11_range_20 LV_M_202 (r_looksForLeftNow hx hR) rfl rfl (fxo_127 hx) rfl (Nat.le_of_ble_eq_true rfl) (Nat.le_of_ble_eq_true rfl) (Nat.le_of_ble_eq_true rfl) (Nat.le_of_ble_eq_true rfl) ?_
      rintro _ _ ⟨I1, rfl, rfl, hF, hD, hB, hl, hc, hT⟩
      have e128 : I1 128 = I 128 := hF 128 (by decide)
      have hct := ctN_bd hR
      refine x_iload_n dX11_range_23 rfl ?_
      refine x_if_ne (tgt := 35) dX11_range_24 rfl (fun c24 => ?_) (fun c24 => ?_)
      · refine x_aload_n dX11_range_35 rfl ?_
        refine x_iload_n dX11_range_36 rfl ?_
        refine x_callV (k2 := 0) (n2 := 0) dX11_range_37 LV_M_208 (r_highOf hx (c := q) (f := ctW (I 128) q) (by omega) (fun w h1 h2 => hT q w (by first | assumption | omega) h1 h2) (fun w => Nat.lt_of_le_of_lt (ctW_bd hR) (by decide))) rfl rfl (fxo_127 hx) rfl (Nat.le_of_ble_eq_true rfl) (Nat.le_of_ble_eq_true rfl) (Nat.le_of_ble_eq_true rfl) (Nat.le_of_ble_eq_true rfl) ?_
        rintro _ _ ⟨rfl, rfl⟩
        refine x_ireturn dX11_range_40 rfl nb_int ?_
        first | exact ⟨I1, by unfold a_range; rw [if_pos ⟨b_t c5, b_t c14⟩, if_pos c24, nI_clamp (by omega)], rfl, hF⟩ | exact ⟨I1, by unfold a_range; rw [if_pos ⟨b_t c5, b_t c14⟩, if_neg c24, nI_clamp (by omega)], rfl, hF⟩
      · refine x_aload_n dX11_range_27 rfl ?_
        refine x_iload_n dX11_range_28 rfl ?_
        refine x_callV (k2 := 0) (n2 := 0) dX11_range_29 LV_M_205 (r_lowOf hx (c := q) (f := ctW (I 128) q) (by omega) (fun w h1 h2 => hT q w (by first | assumption | omega) h1 h2) (fun w => Nat.lt_of_le_of_lt (ctW_bd hR) (by decide))) rfl rfl (fxo_127 hx) rfl (Nat.le_of_ble_eq_true rfl) (Nat.le_of_ble_eq_true rfl) (Nat.le_of_ble_eq_true rfl) (Nat.le_of_ble_eq_true rfl) ?_
        rintro _ _ ⟨rfl, rfl⟩
        refine x_goto (tgt := 40) dX11_range_32 rfl ?_
        refine x_ireturn dX11_range_40 rfl nb_int ?_
        first | exact ⟨I1, by unfold a_range; rw [if_pos ⟨b_t c5, b_t c14⟩, if_pos c24, nI_clamp (by omega)], rfl, hF⟩ | exact ⟨I1, by unfold a_range; rw [if_pos ⟨b_t c5, b_t c14⟩, if_neg c24, nI_clamp (by omega)], rfl, hF⟩
    · refine x_iconst (v := (-1)) dX11_range_17 (by decide) ?_
      refine x_ireturn dX11_range_18 rfl nb_int ?_
      exact ⟨I, by unfold a_range; rw [if_neg (fun h => by grind)], rfl, xFrm.rf⟩

set_option maxHeartbeats 4000000 in
set_option maxRecDepth 100000 in
theorem r_known {g : xG} {nx : Nat} {sh : Nat → Nat × Nat} {P : Nat → Nat → Option Nat} {I : Nat → Nat → Int32} (hx : xFx sh P) (hR : RI (I 128)) : xMet g Y_M_known 6 0 0 [.ref 127] (nx, sh, P, I) (fun r σ => ∃ I1 : Nat → Nat → Int32, r = some (.int (knS (I 128) (cN (I 128) 0))) ∧ σ = (nx, sh, P, I1) ∧ xFrm [127, 130, 131, 133, 134, 135] I I1) := by
  refine xMet.of [some (.ref 127), none, none] (by decide +kernel) (Nat.le_of_ble_eq_true rfl) rfl ?_
  obtain ⟨⟨n0, b0, e0⟩, ⟨n1, b1, e1⟩, ⟨n2, b2, e2⟩, ⟨n3, b3, e3⟩, ⟨n4, b4, e4⟩, ⟨n5, b5, e5⟩, ⟨n6, b6, e6⟩, ⟨n7, b7, e7⟩, ⟨n9, b9, e9⟩⟩ := hR.k
  refine x_aload_n dX11_known_0 rfl ?_
  refine x_callV (k2 := 0) (n2 := 0) dX11_known_1 LV_M_202 (r_looksForLeftNow hx hR) rfl rfl (fxo_127 hx) rfl (Nat.le_of_ble_eq_true rfl) (Nat.le_of_ble_eq_true rfl) (Nat.le_of_ble_eq_true rfl) (Nat.le_of_ble_eq_true rfl) ?_
  rintro _ _ ⟨I1, rfl, rfl, hF, hD, hB, hl, hc, hT⟩
  have e128 : I1 128 = I 128 := hF 128 (by decide)
  have hct := ctN_bd hR
  refine x_iconst (v := 0) dX11_known_4 (by decide) ?_
  refine x_istore_n dX11_known_5 (Nat.le_of_ble_eq_true rfl) ?_
  try simp only [xst, xst2, xclr, xset, xwide]
  refine x_iconst (v := 0) dX11_known_6 (by decide) ?_
  refine x_istore_n dX11_known_7 (Nat.le_of_ble_eq_true rfl) ?_
  try simp only [xst, xst2, xclr, xset, xwide]
  have K8 : ∀ (fuel : Nat) (i : Nat) (a : Int32) (hi : i ≤ n0) (ha : a = knS (I 128) i), n0 - i < fuel → xX g Y_M_known 6 0 0 (fun r σ => ∃ I1 : Nat → Nat → Int32, r = some (.int (knS (I 128) (cN (I 128) 0))) ∧ σ = (nx, sh, P, I1) ∧ xFrm [127, 130, 131, 133, 134, 135] I I1) 8 [some (.ref 127), some (.int a), some (.int (nI i))] [] (nx, sh, P, I1) := by
    intro fuel
    induction fuel with
    | zero => intro i a hi ha hm; exact absurd hm (Nat.not_lt_zero _)
    | succ fuel ih8 =>
      intro i a hi ha hm
      refine x_iload_n dX11_known_8 rfl ?_
      refine x_aload_n dX11_known_9 rfl ?_
      refine y_getr dX11_known_10 F_M_9 (fxo_127 hx) rfl (fxp_127_1 hx) ?_
      refine x_iconst (v := 0) dX11_known_13 (by decide) ?_
      refine y_iaload dX11_known_14 (fxk_128 hx) (vi (j := 0) rfl (by omega) (by decide)) (rI (j := 0) rfl ((congrFun e128 _).trans e0)) ?_
      refine x_icmp_ge (tgt := 54) dX11_known_15 rfl (fun c15 => ?_) (fun c15 => ?_)
      · have hie : i = n0 := cge_t (by omega) hi c15
        refine x_iload_n dX11_known_54 rfl ?_
        refine x_ireturn dX11_known_55 rfl nb_int ?_
        subst hie
        exact ⟨I1, by rw [cN_of e0 (by omega), ha], rfl, hF⟩
      · have him : i < n0 := cge_f (by omega) hi c15
        have hqc : i < cN (I 128) 0 := by rw [cN_of e0 (by omega)]; exact him
        have J46 : ∀ (x : Int32) (hxv : x = if 0 < ctN (I 128) ∧ loS (ctW (I 128) i) 9 1 = hiS (ctW (I 128) i) 9 then 1 <<< (nI i &&& 31) else 0), xX g Y_M_known 6 0 0 (fun r σ => ∃ I1 : Nat → Nat → Int32, r = some (.int (knS (I 128) (cN (I 128) 0))) ∧ σ = (nx, sh, P, I1) ∧ xFrm [127, 130, 131, 133, 134, 135] I I1) 46 [some (.ref 127), some (.int a), some (.int (nI i))] [.int x, .int a] (nx, sh, P, I1) := by
          intro x hxv
          refine x_ior dX11_known_46 ?_
          refine x_istore_n dX11_known_47 (Nat.le_of_ble_eq_true rfl) ?_
          try simp only [xst, xst2, xclr, xset, xwide]
          refine x_iinc (v := (nI (i + 1))) dX11_known_48 rfl (nI_1 _) (Nat.le_of_ble_eq_true rfl) ?_
          try simp only [xst, xst2, xclr, xset, xwide]
          refine x_goto (tgt := 8) dX11_known_51 rfl ?_
          exact ih8 (i + 1) _ (by omega) (by rw [ha, hxv]; rfl) (by omega)
        refine x_iload_n dX11_known_18 rfl ?_
        refine x_aload_n dX11_known_19 rfl ?_
        refine y_geti dX11_known_20 F_M_184 (fxo_127 hx) rfl hl ?_
        refine x_if_le (tgt := 45) dX11_known_23 rfl (fun c23 => ?_) (fun c23 => ?_)
        · refine x_iconst (v := 0) dX11_known_45 (by decide) ?_
          first | exact J46 _ (by rw [if_pos ⟨by rcases Nat.eq_zero_or_pos (ctN (I 128)) with z | z; exact absurd ((nI_le0 (by omega)).mpr z) c23; exact z, by first | exact c36 | exact Classical.byContradiction c36⟩]) | exact J46 _ (by rw [if_neg (fun h => c36 h.2)]) | exact J46 _ (by rw [if_neg (fun h => absurd h.2 c36)]) | exact J46 _ (by rw [if_neg (fun h => by have := (nI_le0 (n := ctN (I 128)) (by omega)).mp c23; omega)])
        · refine x_aload_n dX11_known_26 rfl ?_
          refine x_iload_n dX11_known_27 rfl ?_
          refine x_callV (k2 := 0) (n2 := 0) dX11_known_28 LV_M_205 (r_lowOf hx (c := i) (f := ctW (I 128) i) (by omega) (fun w h1 h2 => hT i w (by first | assumption | omega) h1 h2) (fun w => Nat.lt_of_le_of_lt (ctW_bd hR) (by decide))) rfl rfl (fxo_127 hx) rfl (Nat.le_of_ble_eq_true rfl) (Nat.le_of_ble_eq_true rfl) (Nat.le_of_ble_eq_true rfl) (Nat.le_of_ble_eq_true rfl) ?_
          rintro _ _ ⟨rfl, rfl⟩
          refine x_aload_n dX11_known_31 rfl ?_
          refine x_iload_n dX11_known_32 rfl ?_
          refine x_callV (k2 := 0) (n2 := 0) dX11_known_33 LV_M_208 (r_highOf hx (c := i) (f := ctW (I 128) i) (by omega) (fun w h1 h2 => hT i w (by first | assumption | omega) h1 h2) (fun w => Nat.lt_of_le_of_lt (ctW_bd hR) (by decide))) rfl rfl (fxo_127 hx) rfl (Nat.le_of_ble_eq_true rfl) (Nat.le_of_ble_eq_true rfl) (Nat.le_of_ble_eq_true rfl) (Nat.le_of_ble_eq_true rfl) ?_
          rintro _ _ ⟨rfl, rfl⟩
          refine x_icmp_ne (tgt := 45) dX11_known_36 rfl (fun c36 => ?_) (fun c36 => ?_)
          · refine x_iconst (v := 0) dX11_known_45 (by decide) ?_
            first | exact J46 _ (by rw [if_pos ⟨by rcases Nat.eq_zero_or_pos (ctN (I 128)) with z | z; exact absurd ((nI_le0 (by omega)).mpr z) c23; exact z, by first | exact c36 | exact Classical.byContradiction c36⟩]) | exact J46 _ (by rw [if_neg (fun h => c36 h.2)]) | exact J46 _ (by rw [if_neg (fun h => absurd h.2 c36)]) | exact J46 _ (by rw [if_neg (fun h => by have := (nI_le0 (n := ctN (I 128)) (by omega)).mp c23; omega)])
          · refine x_iconst (v := 1) dX11_known_39 (by decide) ?_
            refine x_iload_n dX11_known_40 rfl ?_
            refine x_ishl dX11_known_41 ?_
            refine x_goto (tgt := 46) dX11_known_42 rfl ?_
            first | exact J46 _ (by rw [if_pos ⟨by rcases Nat.eq_zero_or_pos (ctN (I 128)) with z | z; exact absurd ((nI_le0 (by omega)).mpr z) c23; exact z, by first | exact c36 | exact Classical.byContradiction c36⟩]) | exact J46 _ (by rw [if_neg (fun h => c36 h.2)]) | exact J46 _ (by rw [if_neg (fun h => absurd h.2 c36)]) | exact J46 _ (by rw [if_neg (fun h => by have := (nI_le0 (n := ctN (I 128)) (by omega)).mp c23; omega)])
  exact K8 _ 0 0 (Nat.zero_le _) rfl (Nat.lt_succ_self _)
