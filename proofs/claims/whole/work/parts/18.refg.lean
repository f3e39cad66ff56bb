/-! the reference: questions about guesses -/
def tN (s : Nat → Int32) : Nat := (tpN s).toNatClampNeg
/-- how many guesses there are -/
def gN (s : Nat → Int32) : Nat := tN s ^ cN s 0
/-- how many guesses stand by the first b BUYS -/
def ctX (s : Nat → Int32) (b : Nat) : Nat := ctB (okG s (tN s) b) (gN s)
def ctN (s : Nat → Int32) : Nat := ctX s (cN s 3)
def lcN (s : Nat → Int32) : Int32 := lcM s (tN s) (cN s 3) (gN s)
/-- how many guesses stand that tell w of coin c -/
def ctW (s : Nat → Int32) (c w : Nat) : Nat := ctB (okW s (tN s) (cN s 3) c w) (gN s)
theorem tN_of {s : Nat → Int32} {t : Nat} (h9 : t ≤ 9) (h : tpN s = nI t) : tN s = t := by unfold tN; rw [h, nI_clamp (by omega)]
theorem tN_bd {s : Nat → Int32} (h : RI s) : 1 ≤ tN s ∧ tN s ≤ 9 ∧ tpN s = nI (tN s) := by
  obtain ⟨t, h1, h9, e⟩ := tpN_bd h
  rw [tN_of h9 e]
  exact ⟨h1, h9, e⟩
theorem gN_bd {s : Nat → Int32} (h : RI s) : gN s ≤ 6561 := by
  obtain ⟨t, h1, h9, e⟩ := tpN_bd h
  unfold gN
  rw [tN_of h9 e]
  exact (pw_in h1 h9 h.c0.2).2
theorem ctX_bd {s : Nat → Int32} (h : RI s) {b : Nat} : ctX s b ≤ 6561 := Nat.le_trans (ctB_le _) (gN_bd h)
theorem ctN_bd {s : Nat → Int32} (h : RI s) : ctN s ≤ 6561 := ctX_bd h
theorem ctW_bd {s : Nat → Int32} (h : RI s) {c w : Nat} : ctW s c w ≤ 6561 := Nat.le_trans (ctB_le _) (gN_bd h)
def loS (f : Nat → Nat) : Nat → Nat → Int32
  | 0, _ => -5
  | k + 1, w => if 0 < f w then nI w else loS f k (w + 1)
def hiS (f : Nat → Nat) : Nat → Int32
  | 0 => -5
  | w + 1 => if 0 < f (w + 1) then nI (w + 1) else hiS f w
theorem nI_le0 {n : Nat} (h : n < 2 ^ 31) : nI n ≤ 0 ↔ n = 0 := by
  have := nI_leI (a := n) (b := 0) h (by decide)
  constructor
  · intro z; have := this.mp z; omega
  · intro z; exact this.mpr (by omega)
def a_range (s : Nat → Int32) (c w : Int32) : Int32 := if (0 ≤ c ∧ c < s 0) ∧ 0 ≤ w ∧ w ≤ 1 then (if w = 0 then loS (ctW s c.toNatClampNeg) 9 1 else hiS (ctW s c.toNatClampNeg) 9) else -1
def knS (s : Nat → Int32) : Nat → Int32
  | 0 => 0
  | n + 1 => knS s n ||| if 0 < ctN s ∧ loS (ctW s n) 9 1 = hiS (ctW s n) 9 then 1 <<< (nI n &&& 31) else 0
def a_likely (s : Nat → Int32) (c w part : Int32) : Int64 := if (0 ≤ c ∧ c < s 0) ∧ (1 ≤ w ∧ w ≤ 9) ∧ 0 ≤ part ∧ part ≤ 1 then (if ctN s = 0 then -9223372036854775808 else frL (ctW s c.toNatClampNeg w.toNatClampNeg) (ctN s) part) else -9223372036854775808
def wrS (s : Nat → Int32) : Nat → Nat → Int32
  | 0, _ => -5
  | m + 1, k => if ctX s (k + 1) = 0 then nI k else wrS s m (k + 1)
def a_wrong (s : Nat → Int32) : Int32 := wrS s (cN s 3) 0
def a_cheated (s : Nat → Int32) : Int32 := if lcN s ≤ 60 then lcN s else -5
/-- by a guess, how much coin a is worth over coin b -/
def dfG (s : Nat → Int32) (a b g : Nat) : Int32 := wb s a (dg (tN s) g a) - wb s b (dg (tN s) g b)
def moS (s : Nat → Int32) (a b n : Nat) : Nat := ctB (fun g => okG s (tN s) (cN s 3) g && decide (0 < dfG s a b g)) n
def leS (s : Nat → Int32) (a b n : Nat) : Nat := ctB (fun g => okG s (tN s) (cN s 3) g && decide (dfG s a b g < 0)) n
def alS (s : Nat → Int32) (a b n : Nat) : Nat := ctB (fun g => okG s (tN s) (cN s 3) g && decide (dfG s a b g = 0)) n
/-- what a guess adds to a count -/
theorem ctB_and {p : Nat → Bool} {c : Nat → Prop} [∀ n, Decidable (c n)] {n : Nat} (h : p n = true) : ctB (fun g => p g && decide (c g)) (n + 1) = ctB (fun g => p g && decide (c g)) n + if c n then 1 else 0 := by
  show _ + (if (p n && decide (c n)) = true then 1 else 0) = _
  rw [h, Bool.true_and]
  by_cases hc : c n
  · rw [if_pos hc, if_pos (decide_eq_true hc)]
  · rw [if_neg hc, if_neg (by rw [decide_eq_false hc]; decide)]
theorem ctB_nand {p q : Nat → Bool} {n : Nat} (h : ¬ p n = true) : ctB (fun g => p g && q g) (n + 1) = ctB (fun g => p g && q g) n := ctB_f (fun z => h (by have z : (p n && q n) = true := z; exact ((Bool.and_eq_true _ _).mp z).1))
def wstS (s : Nat → Int32) (a b : Nat) : Nat := max (max (moS s a b (gN s)) (leS s a b (gN s))) (alS s a b (gN s))
def a_alike (s : Nat → Int32) (a b : Int32) : Int32 := if (0 ≤ a ∧ a < s 0) ∧ 0 ≤ b ∧ b < s 0 then (if a = b then -2 else if 0 < alS s a.toNatClampNeg b.toNatClampNeg (gN s) ∧ moS s a.toNatClampNeg b.toNatClampNeg (gN s) = 0 ∧ leS s a.toNatClampNeg b.toNatClampNeg (gN s) = 0 then 1 else 0) else -1
/-- HOLD: one pair more -/
def hdT (s : Nat → Int32) (i j : Nat) (p : Int32 × Int32) : Int32 × Int32 := if p.1 = -5 ∨ nI (wstS s i j) < p.2 then (nI (10 * i + j), nI (wstS s i j)) else p
def hdJ (s : Nat → Int32) (i : Nat) (p : Int32 × Int32) : Nat → Int32 × Int32
  | 0 => p
  | k + 1 => hdT s i (i + 1 + k) (hdJ s i p k)
def hdI (s : Nat → Int32) : Nat → Int32 × Int32
  | 0 => (-5, -5)
  | i + 1 => hdJ s i (hdI s i) (if 0 < ctN s then cN s 0 - (i + 1) else 0)
def a_hold (s : Nat → Int32) (w : Int32) : Int32 := if 0 ≤ w ∧ w ≤ 1 then (if w = 0 then (hdI s (cN s 0)).1 else (hdI s (cN s 0)).2) else -1
/-- what looking for the guesses left leaves -/
def xLF (I I1 : Nat → Nat → Int32) (b : Nat) : Prop := xFrm [127, 130, 131, 133, 134, 135] I I1 ∧ xFd [14, 16] I I1 ∧ xBB I1 ∧ I1 127 14 = nI (ctX (I 128) b) ∧ I1 127 16 = lcM (I 128) (tN (I 128)) b (gN (I 128)) ∧ ∀ c w, c < cN (I 128) 0 → 1 ≤ w → w < 10 → I1 135 (10 * c + w) = nI (ctB (okW (I 128) (tN (I 128)) b c w) (gN (I 128)))
/-- a contract's end may be weakened -/
theorem xMet.po {g : xG} {y : xY} {d k n : Nat} {vs : List Value} {σ : xS} {Q Q' : Option Value → xS → Prop} (h : xMet g y d k n vs σ Q) (hq : ∀ r σ', Q r σ' → Q' r σ') : xMet g y d k n vs σ Q' := by
  intro p e h1 h2 h3 s m args below h4 h5 h6 h7
  obtain ⟨nn, o, w1, w2, w3, w4, L, w5⟩ := h p e h1 h2 h3 s m args below h4 h5 h6 h7
  obtain ⟨r, σ', e1, e2, e3⟩ := w4
  exact ⟨nn, o, w1, w2, w3, ⟨r, σ', e1, hq r σ' e2, e3⟩, L, w5⟩
theorem r_left_b {g : xG} {nx : Nat} {sh : Nat → Nat × Nat} {P : Nat → Nat → Option Nat} {I : Nat → Nat → Int32} (hx : xFx sh P) (hR : RI (I 128)) {b : Nat} (hb6 : b ≤ 6) : xMet g Y_M_looksForLeft 4 0 0 [.ref 127, .int (nI b)] (nx, sh, P, I) (fun r σ => ∃ I1 : Nat → Nat → Int32, r = none ∧ σ = (nx, sh, P, I1) ∧ xLF I I1 b) := by
  obtain ⟨t, h1, h9, e⟩ := tpN_bd hR
  have hm := r_looksForLeft (g := g) (nx := nx) hx hR hb6 e h1 h9
  refine xMet.po hm ?_
  rintro r σ ⟨I1, h2, h3, h4, h5, h6, h7, h8, h10⟩
  refine ⟨I1, h2, h3, h4, h5, h6, ?_, ?_, ?_⟩
  · unfold ctX gN; rw [tN_of h9 e]; exact h7
  · unfold gN; rw [tN_of h9 e]; exact h8
  · unfold gN; rw [tN_of h9 e]; exact h10

set_option maxHeartbeats 4000000 in
set_option maxRecDepth 100000 in
theorem r_looksForLeftNow {g : xG} {nx : Nat} {sh : Nat → Nat × Nat} {P : Nat → Nat → Option Nat} {I : Nat → Nat → Int32} (hx : xFx sh P) (hR : RI (I 128)) : xMet g Y_M_looksForLeftNow 5 0 0 [.ref 127] (nx, sh, P, I) (fun r σ => ∃ I1 : Nat → Nat → Int32, r = none ∧ σ = (nx, sh, P, I1) ∧ xLF I I1 (cN (I 128) 3)) := by
  refine xMet.of [some (.ref 127)] (by decide +kernel) (Nat.le_of_ble_eq_true rfl) rfl ?_
  obtain ⟨⟨n0, b0, e0⟩, ⟨n1, b1, e1⟩, ⟨n2, b2, e2⟩, ⟨n3, b3, e3⟩, ⟨n4, b4, e4⟩, ⟨n5, b5, e5⟩, ⟨n6, b6, e6⟩, ⟨n7, b7, e7⟩, ⟨n9, b9, e9⟩⟩ := hR.k
  refine x_aload_n dX11_looksForLeftNow_0 rfl ?_
  refine x_aload_n dX11_looksForLeftNow_1 rfl ?_
  refine y_getr dX11_looksForLeftNow_2 F_M_9 (fxo_127 hx) rfl (fxp_127_1 hx) ?_
  refine x_iconst (v := 3) dX11_looksForLeftNow_5 (by decide) ?_
  refine y_iaload dX11_looksForLeftNow_6 (fxk_128 hx) (vi (j := 3) rfl (by omega) (by decide)) (rI (j := 3) (ci rfl (by omega)) e3) ?_
  refine x_callV (k2 := 0) (n2 := 0) dX11_looksForLeftNow_7 LV_M_199 (r_left_b (b := n3) hx hR (by omega)) rfl rfl (fxo_127 hx) rfl (Nat.le_of_ble_eq_true rfl) (Nat.le_of_ble_eq_true rfl) (Nat.le_of_ble_eq_true rfl) (Nat.le_of_ble_eq_true rfl) ?_
  rintro _ _ ⟨I1, rfl, rfl, h⟩
  refine x_return dX11_looksForLeftNow_10 rfl ?_
  exact ⟨I1, rfl, rfl, by rw [cN_of e3 (by omega)]; exact h⟩

set_option maxHeartbeats 4000000 in
set_option maxRecDepth 100000 in
theorem r_left {g : xG} {nx : Nat} {sh : Nat → Nat × Nat} {P : Nat → Nat → Option Nat} {I : Nat → Nat → Int32} (hx : xFx sh P) (hR : RI (I 128)) : xMet g Y_M_left 6 0 0 [.ref 127] (nx, sh, P, I) (fun r σ => ∃ I1 : Nat → Nat → Int32, r = some (.int (nI (ctN (I 128)))) ∧ σ = (nx, sh, P, I1) ∧ xFrm [127, 130, 131, 133, 134, 135] I I1 ∧ xFd [14, 16] I I1) := by
  refine xMet.of [some (.ref 127)] (by decide +kernel) (Nat.le_of_ble_eq_true rfl) rfl ?_
  refine x_aload_n dX11_left_0 rfl ?_
  refine x_callV (k2 := 0) (n2 := 0) dX11_left_1 LV_M_202 (r_looksForLeftNow hx hR) rfl rfl (fxo_127 hx) rfl (Nat.le_of_ble_eq_true rfl) (Nat.le_of_ble_eq_true rfl) (Nat.le_of_ble_eq_true rfl) (Nat.le_of_ble_eq_true rfl) ?_
  rintro _ _ ⟨I1, rfl, rfl, hF, hD, hB, hl, hc, hT⟩
  have e128 : I1 128 = I 128 := hF 128 (by decide)
  have hct := ctN_bd hR
  have hl : I1 127 14 = nI (ctN (I 128)) := hl
  have hc : I1 127 16 = lcN (I 128) := hc
  have hT : ∀ c w, c < cN (I 128) 0 → 1 ≤ w → w < 10 → I1 135 (10 * c + w) = nI (ctW (I 128) c w) := hT
  refine x_aload_n dX11_left_4 rfl ?_
  refine y_geti dX11_left_5 F_M_184 (fxo_127 hx) rfl hl ?_
  refine x_ireturn dX11_left_8 rfl nb_int ?_
  exact ⟨I1, rfl, rfl, hF, hD⟩

set_option maxHeartbeats 4000000 in
set_option maxRecDepth 100000 in
theorem r_lowOf {g : xG} {nx : Nat} {sh : Nat → Nat × Nat} {P : Nat → Nat → Option Nat} {I : Nat → Nat → Int32} (hx : xFx sh P) {c : Nat} {f : Nat → Nat} (hc4 : c < 4) (hT : ∀ w, 1 ≤ w → w < 10 → I 135 (10 * c + w) = nI (f w)) (hf : ∀ w, f w < 2 ^ 31) : xMet g Y_M_lowOf 0 0 0 [.ref 127, .int (nI c)] (nx, sh, P, I) (fun r σ => r = some (.int (loS f 9 1)) ∧ σ = (nx, sh, P, I)) := by
  refine xMet.of [some (.ref 127), some (.int (nI c)), none] (by decide +kernel) (Nat.le_of_ble_eq_true rfl) rfl ?_
  refine x_iconst (v := 1) dX11_lowOf_0 (by decide) ?_
  refine x_istore_n dX11_lowOf_1 (Nat.le_of_ble_eq_true rfl) ?_
  try simp only [xst, xst2, xclr, xset, xwide]
  have K2 : ∀ (fuel : Nat) (w : Nat) (hw1 : 1 ≤ w) (hw : w ≤ 10) (ha : loS f (10 - w) w = loS f 9 1), 10 - w < fuel → xX g Y_M_lowOf 0 0 0 (fun r σ => r = some (.int (loS f 9 1)) ∧ σ = (nx, sh, P, I)) 2 [some (.ref 127), some (.int (nI c)), some (.int (nI w))] [] (nx, sh, P, I) := by
    intro fuel
    induction fuel with
    | zero => intro w hw1 hw ha hm; exact absurd hm (Nat.not_lt_zero _)
    | succ fuel ih2 =>
      intro w hw1 hw ha hm
      refine x_iload_n dX11_lowOf_2 rfl ?_
      refine x_bipush (v := 10) dX11_lowOf_3 (by decide) ?_
      refine x_icmp_ge (tgt := 30) dX11_lowOf_5 rfl (fun c5 => ?_) (fun c5 => ?_)
      · have hie : w = 10 := cge_t (by decide) hw c5
        subst hie
        refine x_bipush (v := (-5)) dX11_lowOf_30 (by decide) ?_
        refine x_ireturn dX11_lowOf_32 rfl nb_int ?_
        exact ⟨by rw [← ha]; rfl, rfl⟩
      · have him : w < 10 := cge_f (by decide) hw c5
        have hun : loS f (10 - w) w = if 0 < f w then nI w else loS f (10 - (w + 1)) (w + 1) := by rw [show 10 - w = (10 - (w + 1)) + 1 by omega]; rfl
        refine x_aload_n dX11_lowOf_8 rfl ?_
        refine y_getr dX11_lowOf_9 F_M_34 (fxo_127 hx) rfl (fxp_127_15 hx) ?_
        refine x_bipush (v := 10) dX11_lowOf_12 (by decide) ?_
        refine x_iload_n dX11_lowOf_14 rfl ?_
        refine x_imul dX11_lowOf_15 ?_
        refine x_iload_n dX11_lowOf_16 rfl ?_
        refine x_iadd dX11_lowOf_17 ?_
        refine y_iaload dX11_lowOf_18 (fxk_135 hx) (vi (j := ((10 * c) + w)) (nadd (a := (10 * c)) (b := w) (nmul (a := 10) (b := c) rfl rfl) rfl) (by omega) (by decide)) (rI (j := ((10 * c) + w)) (ci (nadd (a := (10 * c)) (b := w) (nmul (a := 10) (b := c) rfl rfl) rfl) (by omega)) (hT w hw1 him)) ?_
        refine x_if_le (tgt := 24) dX11_lowOf_19 rfl (fun c19 => ?_) (fun c19 => ?_)
        · refine x_iinc (v := (nI (w + 1))) dX11_lowOf_24 rfl (nI_1 _) (Nat.le_of_ble_eq_true rfl) ?_
          try simp only [xst, xst2, xclr, xset, xwide]
          refine x_goto (tgt := 2) dX11_lowOf_27 rfl ?_
          exact ih2 (w + 1) (by omega) (by omega) (by rw [← ha, hun, if_neg (fun z => by have := (nI_le0 (hf w)).mp c19; omega)]) (by omega)
        · refine x_iload_n dX11_lowOf_22 rfl ?_
          refine x_ireturn dX11_lowOf_23 rfl nb_int ?_
          exact ⟨by rw [← ha, hun, if_pos (by rcases Nat.eq_zero_or_pos (f w) with z | z; exact absurd ((nI_le0 (hf w)).mpr z) c19; exact z)], rfl⟩
  exact K2 _ 1 (by decide) (by decide) rfl (Nat.lt_succ_self _)

set_option maxHeartbeats 4000000 in
set_option maxRecDepth 100000 in
theorem r_highOf {g : xG} {nx : Nat} {sh : Nat → Nat × Nat} {P : Nat → Nat → Option Nat} {I : Nat → Nat → Int32} (hx : xFx sh P) {c : Nat} {f : Nat → Nat} (hc4 : c < 4) (hT : ∀ w, 1 ≤ w → w < 10 → I 135 (10 * c + w) = nI (f w)) (hf : ∀ w, f w < 2 ^ 31) : xMet g Y_M_highOf 0 0 0 [.ref 127, .int (nI c)] (nx, sh, P, I) (fun r σ => r = some (.int (hiS f 9)) ∧ σ = (nx, sh, P, I)) := by
  refine xMet.of [some (.ref 127), some (.int (nI c)), none] (by decide +kernel) (Nat.le_of_ble_eq_true rfl) rfl ?_
  refine x_bipush (v := 9) dX11_highOf_0 (by decide) ?_
  refine x_istore_n dX11_highOf_2 (Nat.le_of_ble_eq_true rfl) ?_
  try simp only [xst, xst2, xclr, xset, xwide]
  have K3 : ∀ (fuel : Nat) (w : Nat) (hw : w ≤ 9) (ha : hiS f w = hiS f 9), w < fuel → xX g Y_M_highOf 0 0 0 (fun r σ => r = some (.int (hiS f 9)) ∧ σ = (nx, sh, P, I)) 3 [some (.ref 127), some (.int (nI c)), some (.int (nI w))] [] (nx, sh, P, I) := by
    intro fuel
    induction fuel with
    | zero => intro w hw ha hm; exact absurd hm (Nat.not_lt_zero _)
    | succ fuel ih3 =>
      intro w hw ha hm
      refine x_iload_n dX11_highOf_3 rfl ?_
      refine x_if_le (tgt := 29) dX11_highOf_4 rfl (fun c4 => ?_) (fun c4 => ?_)
      · have hie : w = 0 := (nI_le0 (by omega)).mp c4
        subst hie
        refine x_bipush (v := (-5)) dX11_highOf_29 (by decide) ?_
        refine x_ireturn dX11_highOf_31 rfl nb_int ?_
        exact ⟨by rw [← ha]; rfl, rfl⟩
      · obtain ⟨w', rfl⟩ : ∃ w', w = w' + 1 := by
          rcases w with _ | w'
          · exact absurd ((nI_le0 (by decide)).mpr rfl) c4
          · exact ⟨w', rfl⟩
        refine x_aload_n dX11_highOf_7 rfl ?_
        refine y_getr dX11_highOf_8 F_M_34 (fxo_127 hx) rfl (fxp_127_15 hx) ?_
        refine x_bipush (v := 10) dX11_highOf_11 (by decide) ?_
        refine x_iload_n dX11_highOf_13 rfl ?_
        refine x_imul dX11_highOf_14 ?_
        refine x_iload_n dX11_highOf_15 rfl ?_
        refine x_iadd dX11_highOf_16 ?_
        refine y_iaload dX11_highOf_17 (fxk_135 hx) (vi (j := ((10 * c) + (w' + 1))) (nadd (a := (10 * c)) (b := (w' + 1)) (nmul (a := 10) (b := c) rfl rfl) rfl) (by omega) (by decide)) (rI (j := ((10 * c) + (w' + 1))) (ci (nadd (a := (10 * c)) (b := (w' + 1)) (nmul (a := 10) (b := c) rfl rfl) rfl) (by omega)) (hT (w' + 1) (by omega) (by omega))) ?_
        refine x_if_le (tgt := 23) dX11_highOf_18 rfl (fun c18 => ?_) (fun c18 => ?_)
        · refine x_iinc (v := (nI w')) dX11_highOf_23 rfl (i_m1.trans (nI_pred _)) (Nat.le_of_ble_eq_true rfl) ?_
          try simp only [xst, xst2, xclr, xset, xwide]
          refine x_goto (tgt := 3) dX11_highOf_26 rfl ?_
          exact ih3 w' (by omega) (by rw [← ha]; show _ = (if 0 < f (w' + 1) then nI (w' + 1) else hiS f w'); rw [if_neg (fun z => by have := (nI_le0 (hf _)).mp c18; omega)]) (by omega)
        · refine x_iload_n dX11_highOf_21 rfl ?_
          refine x_ireturn dX11_highOf_22 rfl nb_int ?_
          exact ⟨by rw [← ha]; show _ = some (Value.int (if 0 < f (w' + 1) then nI (w' + 1) else hiS f w')); rw [if_pos (by rcases Nat.eq_zero_or_pos (f (w' + 1)) with z | z; exact absurd ((nI_le0 (hf _)).mpr z) c18; exact z)], rfl⟩
  exact K3 _ 9 (by decide) rfl (Nat.lt_succ_self _)

set_option maxHeartbeats 4000000 in
set_option maxRecDepth 100000 in
theorem r_range {g : xG} {nx : Nat} {sh : Nat → Nat × Nat} {P : Nat → Nat → Option Nat} {I : Nat → Nat → Int32} (hx : xFx sh P) {c w : Int32} (hR : RI (I 128)) : xMet g Y_M_range 6 0 0 [.ref 127, .int c, .int w] (nx, sh, P, I) (fun r σ => ∃ I1 : Nat → Nat → Int32, r = some (.int (a_range (I 128) c w)) ∧ σ = (nx, sh, P, I1) ∧ xFrm [127, 130, 131, 133, 134, 135] I I1 ∧ xFd [14, 16] I I1) := by
  refine xMet.of [some (.ref 127), some (.int c), some (.int w)] (by decide +kernel) (Nat.le_of_ble_eq_true rfl) rfl ?_
  obtain ⟨⟨n0, b0, e0⟩, ⟨n1, b1, e1⟩, ⟨n2, b2, e2⟩, ⟨n3, b3, e3⟩, ⟨n4, b4, e4⟩, ⟨n5, b5, e5⟩, ⟨n6, b6, e6⟩, ⟨n7, b7, e7⟩, ⟨n9, b9, e9⟩⟩ := hR.k
  refine x_aload_n dX11_range_0 rfl ?_
  refine x_iload_n dX11_range_1 rfl ?_
  refine x_callV (k2 := 0) (n2 := 0) dX11_range_2 LV_M_161 (r_isCoin hx hR.nn0) rfl rfl (fxo_127 hx) rfl (Nat.le_of_ble_eq_true rfl) (Nat.le_of_ble_eq_true rfl) (Nat.le_of_ble_eq_true rfl) (Nat.le_of_ble_eq_true rfl) ?_
  rintro _ _ ⟨rfl, rfl⟩
  refine x_if_eq (tgt := 17) dX11_range_5 rfl (fun c5 => ?_) (fun c5 => ?_)
  · refine x_iconst (v := (-1)) dX11_range_17 (by decide) ?_
    refine x_ireturn dX11_range_18 rfl nb_int ?_
    exact ⟨I, by unfold a_range; rw [if_neg (fun h => by grind)], rfl, xFrm.rf, xFd.rf⟩
  · refine x_iload_n dX11_range_8 rfl ?_
    refine x_iconst (v := 0) dX11_range_9 (by decide) ?_
    refine x_iconst (v := 1) dX11_range_10 (by decide) ?_
    refine x_callS (k2 := 0) (n2 := 0) dX11_range_11 LS_M_65 r_in rfl rfl (Nat.le_of_ble_eq_true rfl) (Nat.le_of_ble_eq_true rfl) (Nat.le_of_ble_eq_true rfl) (Nat.le_of_ble_eq_true rfl) ?_
    rintro _ _ ⟨rfl, rfl⟩
    refine x_if_ne (tgt := 19) dX11_range_14 rfl (fun c14 => ?_) (fun c14 => ?_)
    · obtain ⟨q, hq, rfl⟩ := i_2 (n := n0) (by omega) (by rw [← e0]; exact b_t c5)
      have hqc : q < cN (I 128) 0 := by rw [cN_of e0 (by omega)]; exact hq
      refine x_aload_n dX11_range_19 rfl ?_
      refine x_callV (k2 := 0) (n2 := 0) dX11_range_20 LV_M_202 (r_looksForLeftNow hx hR) rfl rfl (fxo_127 hx) rfl (Nat.le_of_ble_eq_true rfl) (Nat.le_of_ble_eq_true rfl) (Nat.le_of_ble_eq_true rfl) (Nat.le_of_ble_eq_true rfl) ?_
      rintro _ _ ⟨I1, rfl, rfl, hF, hD, hB, hl, hc, hT⟩
      have e128 : I1 128 = I 128 := hF 128 (by decide)
      have hct := ctN_bd hR
      have hl : I1 127 14 = nI (ctN (I 128)) := hl
      have hc : I1 127 16 = lcN (I 128) := hc
      have hT : ∀ c w, c < cN (I 128) 0 → 1 ≤ w → w < 10 → I1 135 (10 * c + w) = nI (ctW (I 128) c w) := hT
      refine x_iload_n dX11_range_23 rfl ?_
      refine x_if_ne (tgt := 35) dX11_range_24 rfl (fun c24 => ?_) (fun c24 => ?_)
      · refine x_aload_n dX11_range_35 rfl ?_
        refine x_iload_n dX11_range_36 rfl ?_
        refine x_callV (k2 := 0) (n2 := 0) dX11_range_37 LV_M_208 (r_highOf hx (c := q) (f := ctW (I 128) q) (by omega) (fun w h1 h2 => hT q w (by first | assumption | omega) h1 h2) (fun w => Nat.lt_of_le_of_lt (ctW_bd hR) (by decide))) rfl rfl (fxo_127 hx) rfl (Nat.le_of_ble_eq_true rfl) (Nat.le_of_ble_eq_true rfl) (Nat.le_of_ble_eq_true rfl) (Nat.le_of_ble_eq_true rfl) ?_
        rintro _ _ ⟨rfl, rfl⟩
        refine x_ireturn dX11_range_40 rfl nb_int ?_
        first | exact ⟨I1, by unfold a_range; rw [if_pos ⟨b_t c5, b_t c14⟩, if_pos c24, nI_clamp (by omega)], rfl, hF, hD⟩ | exact ⟨I1, by unfold a_range; rw [if_pos ⟨b_t c5, b_t c14⟩, if_neg c24, nI_clamp (by omega)], rfl, hF, hD⟩
      · refine x_aload_n dX11_range_27 rfl ?_
        refine x_iload_n dX11_range_28 rfl ?_
        refine x_callV (k2 := 0) (n2 := 0) dX11_range_29 LV_M_205 (r_lowOf hx (c := q) (f := ctW (I 128) q) (by omega) (fun w h1 h2 => hT q w (by first | assumption | omega) h1 h2) (fun w => Nat.lt_of_le_of_lt (ctW_bd hR) (by decide))) rfl rfl (fxo_127 hx) rfl (Nat.le_of_ble_eq_true rfl) (Nat.le_of_ble_eq_true rfl) (Nat.le_of_ble_eq_true rfl) (Nat.le_of_ble_eq_true rfl) ?_
        rintro _ _ ⟨rfl, rfl⟩
        refine x_goto (tgt := 40) dX11_range_32 rfl ?_
        refine x_ireturn dX11_range_40 rfl nb_int ?_
        first | exact ⟨I1, by unfold a_range; rw [if_pos ⟨b_t c5, b_t c14⟩, if_pos c24, nI_clamp (by omega)], rfl, hF, hD⟩ | exact ⟨I1, by unfold a_range; rw [if_pos ⟨b_t c5, b_t c14⟩, if_neg c24, nI_clamp (by omega)], rfl, hF, hD⟩
    · refine x_iconst (v := (-1)) dX11_range_17 (by decide) ?_
      refine x_ireturn dX11_range_18 rfl nb_int ?_
      exact ⟨I, by unfold a_range; rw [if_neg (fun h => by grind)], rfl, xFrm.rf, xFd.rf⟩

set_option maxHeartbeats 4000000 in
set_option maxRecDepth 100000 in
theorem r_known {g : xG} {nx : Nat} {sh : Nat → Nat × Nat} {P : Nat → Nat → Option Nat} {I : Nat → Nat → Int32} (hx : xFx sh P) (hR : RI (I 128)) : xMet g Y_M_known 6 0 0 [.ref 127] (nx, sh, P, I) (fun r σ => ∃ I1 : Nat → Nat → Int32, r = some (.int (knS (I 128) (cN (I 128) 0))) ∧ σ = (nx, sh, P, I1) ∧ xFrm [127, 130, 131, 133, 134, 135] I I1 ∧ xFd [14, 16] I I1) := by
  refine xMet.of [some (.ref 127), none, none] (by decide +kernel) (Nat.le_of_ble_eq_true rfl) rfl ?_
  obtain ⟨⟨n0, b0, e0⟩, ⟨n1, b1, e1⟩, ⟨n2, b2, e2⟩, ⟨n3, b3, e3⟩, ⟨n4, b4, e4⟩, ⟨n5, b5, e5⟩, ⟨n6, b6, e6⟩, ⟨n7, b7, e7⟩, ⟨n9, b9, e9⟩⟩ := hR.k
  refine x_aload_n dX11_known_0 rfl ?_
  refine x_callV (k2 := 0) (n2 := 0) dX11_known_1 LV_M_202 (r_looksForLeftNow hx hR) rfl rfl (fxo_127 hx) rfl (Nat.le_of_ble_eq_true rfl) (Nat.le_of_ble_eq_true rfl) (Nat.le_of_ble_eq_true rfl) (Nat.le_of_ble_eq_true rfl) ?_
  rintro _ _ ⟨I1, rfl, rfl, hF, hD, hB, hl, hc, hT⟩
  have e128 : I1 128 = I 128 := hF 128 (by decide)
  have hct := ctN_bd hR
  have hl : I1 127 14 = nI (ctN (I 128)) := hl
  have hc : I1 127 16 = lcN (I 128) := hc
  have hT : ∀ c w, c < cN (I 128) 0 → 1 ≤ w → w < 10 → I1 135 (10 * c + w) = nI (ctW (I 128) c w) := hT
  refine x_iconst (v := 0) dX11_known_4 (by decide) ?_
  refine x_istore_n dX11_known_5 (Nat.le_of_ble_eq_true rfl) ?_
  try simp only [xst, xst2, xclr, xset, xwide]
  refine x_iconst (v := 0) dX11_known_6 (by decide) ?_
  refine x_istore_n dX11_known_7 (Nat.le_of_ble_eq_true rfl) ?_
  try simp only [xst, xst2, xclr, xset, xwide]
  have K8 : ∀ (fuel : Nat) (i : Nat) (a : Int32) (hi : i ≤ n0) (ha : a = knS (I 128) i), n0 - i < fuel → xX g Y_M_known 6 0 0 (fun r σ => ∃ I1 : Nat → Nat → Int32, r = some (.int (knS (I 128) (cN (I 128) 0))) ∧ σ = (nx, sh, P, I1) ∧ xFrm [127, 130, 131, 133, 134, 135] I I1 ∧ xFd [14, 16] I I1) 8 [some (.ref 127), some (.int a), some (.int (nI i))] [] (nx, sh, P, I1) := by
    intro fuel
    induction fuel with
    | zero => intro i a hi ha hm; exact absurd hm (Nat.not_lt_zero _)
    | succ fuel ih8 =>
      intro i a hi ha hm
      refine x_iload_n dX11_known_8 rfl ?_
      refine x_aload_n dX11_known_9 rfl ?_
      refine y_getr dX11_known_10 F_M_9 (fxo_127 hx) rfl (fxp_127_1 hx) ?_
      refine x_iconst (v := 0) dX11_known_13 (by decide) ?_
      refine y_iaload dX11_known_14 (fxk_128 hx) (vi (j := 0) rfl (by omega) (by decide)) (rI (j := 0) rfl ((congrFun e128 _).trans e0)) ?_
      refine x_icmp_ge (tgt := 54) dX11_known_15 rfl (fun c15 => ?_) (fun c15 => ?_)
      · have hie : i = n0 := cge_t (by omega) hi c15
        refine x_iload_n dX11_known_54 rfl ?_
        refine x_ireturn dX11_known_55 rfl nb_int ?_
        subst hie
        exact ⟨I1, by rw [cN_of e0 (by omega), ha], rfl, hF, hD⟩
      · have him : i < n0 := cge_f (by omega) hi c15
        have hqc : i < cN (I 128) 0 := by rw [cN_of e0 (by omega)]; exact him
        have J46 : ∀ (x : Int32) (hxv : x = if 0 < ctN (I 128) ∧ loS (ctW (I 128) i) 9 1 = hiS (ctW (I 128) i) 9 then 1 <<< (nI i &&& 31) else 0), xX g Y_M_known 6 0 0 (fun r σ => ∃ I1 : Nat → Nat → Int32, r = some (.int (knS (I 128) (cN (I 128) 0))) ∧ σ = (nx, sh, P, I1) ∧ xFrm [127, 130, 131, 133, 134, 135] I I1 ∧ xFd [14, 16] I I1) 46 [some (.ref 127), some (.int a), some (.int (nI i))] [.int x, .int a] (nx, sh, P, I1) := by
          intro x hxv
          refine x_ior dX11_known_46 ?_
          refine x_istore_n dX11_known_47 (Nat.le_of_ble_eq_true rfl) ?_
          try simp only [xst, xst2, xclr, xset, xwide]
          refine x_iinc (v := (nI (i + 1))) dX11_known_48 rfl (nI_1 _) (Nat.le_of_ble_eq_true rfl) ?_
          try simp only [xst, xst2, xclr, xset, xwide]
          refine x_goto (tgt := 8) dX11_known_51 rfl ?_
          exact ih8 (i + 1) _ (by omega) (by rw [ha, hxv]; rfl) (by omega)
        refine x_iload_n dX11_known_18 rfl ?_
        refine x_aload_n dX11_known_19 rfl ?_
        refine y_geti dX11_known_20 F_M_184 (fxo_127 hx) rfl hl ?_
        refine x_if_le (tgt := 45) dX11_known_23 rfl (fun c23 => ?_) (fun c23 => ?_)
        · refine x_iconst (v := 0) dX11_known_45 (by decide) ?_
          first | exact J46 _ (by rw [if_pos ⟨by rcases Nat.eq_zero_or_pos (ctN (I 128)) with z | z; exact absurd ((nI_le0 (by omega)).mpr z) c23; exact z, by first | exact c36 | exact Classical.byContradiction c36⟩]) | exact J46 _ (by rw [if_neg (fun h => c36 h.2)]) | exact J46 _ (by rw [if_neg (fun h => absurd h.2 c36)]) | exact J46 _ (by rw [if_neg (fun h => by have := (nI_le0 (n := ctN (I 128)) (by omega)).mp c23; omega)])
        · refine x_aload_n dX11_known_26 rfl ?_
          refine x_iload_n dX11_known_27 rfl ?_
          refine x_callV (k2 := 0) (n2 := 0) dX11_known_28 LV_M_205 (r_lowOf hx (c := i) (f := ctW (I 128) i) (by omega) (fun w h1 h2 => hT i w (by first | assumption | omega) h1 h2) (fun w => Nat.lt_of_le_of_lt (ctW_bd hR) (by decide))) rfl rfl (fxo_127 hx) rfl (Nat.le_of_ble_eq_true rfl) (Nat.le_of_ble_eq_true rfl) (Nat.le_of_ble_eq_true rfl) (Nat.le_of_ble_eq_true rfl) ?_
          rintro _ _ ⟨rfl, rfl⟩
          refine x_aload_n dX11_known_31 rfl ?_
          refine x_iload_n dX11_known_32 rfl ?_
          refine x_callV (k2 := 0) (n2 := 0) dX11_known_33 LV_M_208 (r_highOf hx (c := i) (f := ctW (I 128) i) (by omega) (fun w h1 h2 => hT i w (by first | assumption | omega) h1 h2) (fun w => Nat.lt_of_le_of_lt (ctW_bd hR) (by decide))) rfl rfl (fxo_127 hx) rfl (Nat.le_of_ble_eq_true rfl) (Nat.le_of_ble_eq_true rfl) (Nat.le_of_ble_eq_true rfl) (Nat.le_of_ble_eq_true rfl) ?_
          rintro _ _ ⟨rfl, rfl⟩
          refine x_icmp_ne (tgt := 45) dX11_known_36 rfl (fun c36 => ?_) (fun c36 => ?_)
          · refine x_iconst (v := 0) dX11_known_45 (by decide) ?_
            first | exact J46 _ (by rw [if_pos ⟨by rcases Nat.eq_zero_or_pos (ctN (I 128)) with z | z; exact absurd ((nI_le0 (by omega)).mpr z) c23; exact z, by first | exact c36 | exact Classical.byContradiction c36⟩]) | exact J46 _ (by rw [if_neg (fun h => c36 h.2)]) | exact J46 _ (by rw [if_neg (fun h => absurd h.2 c36)]) | exact J46 _ (by rw [if_neg (fun h => by have := (nI_le0 (n := ctN (I 128)) (by omega)).mp c23; omega)])
          · refine x_iconst (v := 1) dX11_known_39 (by decide) ?_
            refine x_iload_n dX11_known_40 rfl ?_
            refine x_ishl dX11_known_41 ?_
            refine x_goto (tgt := 46) dX11_known_42 rfl ?_
            first | exact J46 _ (by rw [if_pos ⟨by rcases Nat.eq_zero_or_pos (ctN (I 128)) with z | z; exact absurd ((nI_le0 (by omega)).mpr z) c23; exact z, by first | exact c36 | exact Classical.byContradiction c36⟩]) | exact J46 _ (by rw [if_neg (fun h => c36 h.2)]) | exact J46 _ (by rw [if_neg (fun h => absurd h.2 c36)]) | exact J46 _ (by rw [if_neg (fun h => by have := (nI_le0 (n := ctN (I 128)) (by omega)).mp c23; omega)])
  exact K8 _ 0 0 (Nat.zero_le _) rfl (Nat.lt_succ_self _)

set_option maxHeartbeats 4000000 in
set_option maxRecDepth 100000 in
theorem r_likely {g : xG} {nx : Nat} {sh : Nat → Nat × Nat} {P : Nat → Nat → Option Nat} {I : Nat → Nat → Int32} (hx : xFx sh P) {c w part : Int32} (hR : RI (I 128)) : xMet g Y_M_likely 6 0 0 [.ref 127, .int c, .int w, .int part] (nx, sh, P, I) (fun r σ => ∃ I1 : Nat → Nat → Int32, r = some (.long (a_likely (I 128) c w part)) ∧ σ = (nx, sh, P, I1) ∧ xFrm [127, 130, 131, 133, 134, 135] I I1 ∧ xFd [14, 16] I I1) := by
  refine xMet.of [some (.ref 127), some (.int c), some (.int w), some (.int part)] (by decide +kernel) (Nat.le_of_ble_eq_true rfl) rfl ?_
  obtain ⟨⟨n0, b0, e0⟩, ⟨n1, b1, e1⟩, ⟨n2, b2, e2⟩, ⟨n3, b3, e3⟩, ⟨n4, b4, e4⟩, ⟨n5, b5, e5⟩, ⟨n6, b6, e6⟩, ⟨n7, b7, e7⟩, ⟨n9, b9, e9⟩⟩ := hR.k
  refine x_aload_n dX11_likely_0 rfl ?_
  refine x_iload_n dX11_likely_1 rfl ?_
  refine x_callV (k2 := 0) (n2 := 0) dX11_likely_2 LV_M_161 (r_isCoin hx hR.nn0) rfl rfl (fxo_127 hx) rfl (Nat.le_of_ble_eq_true rfl) (Nat.le_of_ble_eq_true rfl) (Nat.le_of_ble_eq_true rfl) (Nat.le_of_ble_eq_true rfl) ?_
  rintro _ _ ⟨rfl, rfl⟩
  refine x_if_eq (tgt := 27) dX11_likely_5 rfl (fun c5 => ?_) (fun c5 => ?_)
  · refine x_ldc2 dX11_likely_27 K_M_211 ?_
    refine x_lreturn dX11_likely_30 rfl ?_
    exact ⟨I, by unfold a_likely; rw [if_neg (fun h => by grind)], rfl, xFrm.rf, xFd.rf⟩
  · refine x_iload_n dX11_likely_8 rfl ?_
    refine x_iconst (v := 1) dX11_likely_9 (by decide) ?_
    refine x_bipush (v := 9) dX11_likely_10 (by decide) ?_
    refine x_callS (k2 := 0) (n2 := 0) dX11_likely_12 LS_M_65 r_in rfl rfl (Nat.le_of_ble_eq_true rfl) (Nat.le_of_ble_eq_true rfl) (Nat.le_of_ble_eq_true rfl) (Nat.le_of_ble_eq_true rfl) ?_
    rintro _ _ ⟨rfl, rfl⟩
    refine x_if_eq (tgt := 27) dX11_likely_15 rfl (fun c15 => ?_) (fun c15 => ?_)
    · refine x_ldc2 dX11_likely_27 K_M_211 ?_
      refine x_lreturn dX11_likely_30 rfl ?_
      exact ⟨I, by unfold a_likely; rw [if_neg (fun h => by grind)], rfl, xFrm.rf, xFd.rf⟩
    · refine x_iload_n dX11_likely_18 rfl ?_
      refine x_iconst (v := 0) dX11_likely_19 (by decide) ?_
      refine x_iconst (v := 1) dX11_likely_20 (by decide) ?_
      refine x_callS (k2 := 0) (n2 := 0) dX11_likely_21 LS_M_65 r_in rfl rfl (Nat.le_of_ble_eq_true rfl) (Nat.le_of_ble_eq_true rfl) (Nat.le_of_ble_eq_true rfl) (Nat.le_of_ble_eq_true rfl) ?_
      rintro _ _ ⟨rfl, rfl⟩
      refine x_if_ne (tgt := 31) dX11_likely_24 rfl (fun c24 => ?_) (fun c24 => ?_)
      · obtain ⟨q, hq, rfl⟩ := i_2 (n := n0) (by omega) (by rw [← e0]; exact b_t c5)
        have hqc : q < cN (I 128) 0 := by rw [cN_of e0 (by omega)]; exact hq
        obtain ⟨z, hz, rfl⟩ : ∃ z, z < 10 ∧ w = nI z := i_2 (i := w) (n := 10) (by decide) (by have h9 := b_t c15; exact ⟨Int32.le_trans (by decide) h9.1, Int32.lt_of_le_of_lt h9.2 (by decide)⟩)
        have hz1 : 1 ≤ z := by
          rcases Nat.eq_zero_or_pos z with h | h
          · subst h; exact absurd (b_t c15).1 (by decide)
          · exact h
        refine x_aload_n dX11_likely_31 rfl ?_
        refine x_callV (k2 := 0) (n2 := 0) dX11_likely_32 LV_M_202 (r_looksForLeftNow hx hR) rfl rfl (fxo_127 hx) rfl (Nat.le_of_ble_eq_true rfl) (Nat.le_of_ble_eq_true rfl) (Nat.le_of_ble_eq_true rfl) (Nat.le_of_ble_eq_true rfl) ?_
        rintro _ _ ⟨I1, rfl, rfl, hF, hD, hB, hl, hc, hT⟩
        have e128 : I1 128 = I 128 := hF 128 (by decide)
        have hct := ctN_bd hR
        have hl : I1 127 14 = nI (ctN (I 128)) := hl
        have hc : I1 127 16 = lcN (I 128) := hc
        have hT : ∀ c w, c < cN (I 128) 0 → 1 ≤ w → w < 10 → I1 135 (10 * c + w) = nI (ctW (I 128) c w) := hT
        have hcw := ctW_bd (c := q) (w := z) hR
        refine x_aload_n dX11_likely_35 rfl ?_
        refine y_geti dX11_likely_36 F_M_184 (fxo_127 hx) rfl hl ?_
        refine x_if_ne (tgt := 48) dX11_likely_39 rfl (fun c39 => ?_) (fun c39 => ?_)
        · refine x_aload_n dX11_likely_48 rfl ?_
          refine y_getr dX11_likely_49 F_M_34 (fxo_127 hx) rfl (fxp_127_15 hx) ?_
          refine x_bipush (v := 10) dX11_likely_52 (by decide) ?_
          refine x_iload_n dX11_likely_54 rfl ?_
          refine x_imul dX11_likely_55 ?_
          refine x_iload_n dX11_likely_56 rfl ?_
          refine x_iadd dX11_likely_57 ?_
          refine y_iaload dX11_likely_58 (fxk_135 hx) (vi (j := ((10 * q) + z)) (nadd (a := (10 * q)) (b := z) (nmul (a := 10) (b := q) rfl rfl) rfl) (by omega) (by decide)) (rI (j := ((10 * q) + z)) (ci (nadd (a := (10 * q)) (b := z) (nmul (a := 10) (b := q) rfl rfl) rfl) (by omega)) (hT q z hqc hz1 (by omega))) ?_
          refine x_i2l dX11_likely_59 ?_
          rw [nI_l (by omega)]
          refine x_aload_n dX11_likely_60 rfl ?_
          refine y_geti dX11_likely_61 F_M_184 (fxo_127 hx) rfl hl ?_
          refine x_i2l dX11_likely_64 ?_
          rw [nI_l (by omega)]
          refine x_iload_n dX11_likely_65 rfl ?_
          refine x_callS (k2 := 0) (n2 := 0) dX11_likely_66 LS_M_213 (r_lowest (u := ctW (I 128) q z) (l := ctN (I 128)) (by omega) (by omega) (by rcases Nat.eq_zero_or_pos (ctN (I 128)) with z2 | z2; exact absurd (by rw [z2]; rfl) c39; exact z2)) rfl rfl (Nat.le_of_ble_eq_true rfl) (Nat.le_of_ble_eq_true rfl) (Nat.le_of_ble_eq_true rfl) (Nat.le_of_ble_eq_true rfl) ?_
          rintro _ _ ⟨rfl, rfl⟩
          refine x_lreturn dX11_likely_69 rfl ?_
          first | exact ⟨I1, by unfold a_likely; rw [if_pos ⟨b_t c5, b_t c15, b_t c24⟩, if_neg (fun h => c39 (by rw [h]; rfl)), nI_clamp (by omega), nI_clamp (by omega)], rfl, hF, hD⟩ | exact ⟨I1, by unfold a_likely; rw [if_pos ⟨b_t c5, b_t c15, b_t c24⟩, if_pos ((nI_le0 (n := ctN (I 128)) (by omega)).mp (by rw [c39]; decide))], rfl, hF, hD⟩
        · refine x_ldc2 dX11_likely_42 K_M_211 ?_
          refine x_goto (tgt := 69) dX11_likely_45 rfl ?_
          refine x_lreturn dX11_likely_69 rfl ?_
          first | exact ⟨I1, by unfold a_likely; rw [if_pos ⟨b_t c5, b_t c15, b_t c24⟩, if_neg (fun h => c39 (by rw [h]; rfl)), nI_clamp (by omega), nI_clamp (by omega)], rfl, hF, hD⟩ | exact ⟨I1, by unfold a_likely; rw [if_pos ⟨b_t c5, b_t c15, b_t c24⟩, if_pos ((nI_le0 (n := ctN (I 128)) (by omega)).mp (by rw [c39]; decide))], rfl, hF, hD⟩
      · refine x_ldc2 dX11_likely_27 K_M_211 ?_
        refine x_lreturn dX11_likely_30 rfl ?_
        exact ⟨I, by unfold a_likely; rw [if_neg (fun h => by grind)], rfl, xFrm.rf, xFd.rf⟩

set_option maxHeartbeats 4000000 in
set_option maxRecDepth 100000 in
theorem r_wrong {g : xG} {nx : Nat} {sh : Nat → Nat × Nat} {P : Nat → Nat → Option Nat} {I : Nat → Nat → Int32} (hx : xFx sh P) (hR : RI (I 128)) : xMet g Y_M_wrong 5 0 0 [.ref 127] (nx, sh, P, I) (fun r σ => ∃ I1 : Nat → Nat → Int32, r = some (.int (a_wrong (I 128))) ∧ σ = (nx, sh, P, I1) ∧ xFrm [127, 130, 131, 133, 134, 135] I I1 ∧ xFd [14, 16] I I1) := by
  refine xMet.of [some (.ref 127), none] (by decide +kernel) (Nat.le_of_ble_eq_true rfl) rfl ?_
  obtain ⟨⟨n0, b0, e0⟩, ⟨n1, b1, e1⟩, ⟨n2, b2, e2⟩, ⟨n3, b3, e3⟩, ⟨n4, b4, e4⟩, ⟨n5, b5, e5⟩, ⟨n6, b6, e6⟩, ⟨n7, b7, e7⟩, ⟨n9, b9, e9⟩⟩ := hR.k
  refine x_iconst (v := 0) dX11_wrong_0 (by decide) ?_
  refine x_istore_n dX11_wrong_1 (Nat.le_of_ble_eq_true rfl) ?_
  try simp only [xst, xst2, xclr, xset, xwide]
  have K2 : ∀ (fuel : Nat) (i : Nat) (I2 : Nat → Nat → Int32) (hi : i ≤ n3) (hF : xFrm [127, 130, 131, 133, 134, 135] I I2) (hD : xFd [14, 16] I I2) (ha : wrS (I 128) (n3 - i) i = a_wrong (I 128)), n3 - i < fuel → xX g Y_M_wrong 5 0 0 (fun r σ => ∃ I1 : Nat → Nat → Int32, r = some (.int (a_wrong (I 128))) ∧ σ = (nx, sh, P, I1) ∧ xFrm [127, 130, 131, 133, 134, 135] I I1 ∧ xFd [14, 16] I I1) 2 [some (.ref 127), some (.int (nI i))] [] (nx, sh, P, I2) := by
    intro fuel
    induction fuel with
    | zero => intro i I2 hi hF hD ha hm; exact absurd hm (Nat.not_lt_zero _)
    | succ fuel ih2 =>
      intro i I2 hi hF hD ha hm
      refine x_iload_n dX11_wrong_2 rfl ?_
      refine x_aload_n dX11_wrong_3 rfl ?_
      refine y_getr dX11_wrong_4 F_M_9 (fxo_127 hx) rfl (fxp_127_1 hx) ?_
      refine x_iconst (v := 3) dX11_wrong_7 (by decide) ?_
      have f128 : I2 128 = I 128 := hF 128 (by decide)
      refine y_iaload dX11_wrong_8 (fxk_128 hx) (vi (j := 3) rfl (by omega) (by decide)) (rI (j := 3) rfl ((congrFun f128 _).trans e3)) ?_
      refine x_icmp_ge (tgt := 34) dX11_wrong_9 rfl (fun c9 => ?_) (fun c9 => ?_)
      · have hie : i = n3 := cge_t (by omega) hi c9
        refine x_bipush (v := (-5)) dX11_wrong_34 (by decide) ?_
        refine x_ireturn dX11_wrong_36 rfl nb_int ?_
        subst hie
        exact ⟨I2, by rw [← ha, Nat.sub_self]; rfl, rfl, hF, hD⟩
      · have him : i < n3 := cge_f (by omega) hi c9
        have hun : wrS (I 128) (n3 - i) i = if ctX (I 128) (i + 1) = 0 then nI i else wrS (I 128) (n3 - (i + 1)) (i + 1) := by rw [show n3 - i = (n3 - (i + 1)) + 1 by omega]; rfl
        refine x_aload_n dX11_wrong_12 rfl ?_
        refine x_iload_n dX11_wrong_13 rfl ?_
        refine x_iconst (v := 1) dX11_wrong_14 (by decide) ?_
        refine x_iadd dX11_wrong_15 ?_
        rw [nI_1]
        refine x_callV (k2 := 0) (n2 := 0) dX11_wrong_16 LV_M_199 (r_left_b (I := I2) (b := i + 1) hx (by rw [f128]; exact hR) (by omega)) rfl rfl (fxo_127 hx) rfl (Nat.le_of_ble_eq_true rfl) (Nat.le_of_ble_eq_true rfl) (Nat.le_of_ble_eq_true rfl) (Nat.le_of_ble_eq_true rfl) ?_
        rintro _ _ ⟨I3, rfl, rfl, h⟩
        have hF3 : xFrm [127, 130, 131, 133, 134, 135] I I3 := hF.tr h.1
        have hD3 : xFd [14, 16] I I3 := xFd.tr (l1 := [14, 16]) hD h.2.1
        have hl : I3 127 14 = nI (ctX (I 128) (i + 1)) := by rw [← f128]; exact h.2.2.2.1
        have hcb := ctX_bd (b := i + 1) hR
        refine x_aload_n dX11_wrong_19 rfl ?_
        refine y_geti dX11_wrong_20 F_M_184 (fxo_127 hx) rfl hl ?_
        refine x_if_ne (tgt := 28) dX11_wrong_23 rfl (fun c23 => ?_) (fun c23 => ?_)
        · refine x_iinc (v := (nI (i + 1))) dX11_wrong_28 rfl (nI_1 _) (Nat.le_of_ble_eq_true rfl) ?_
          try simp only [xst, xst2, xclr, xset, xwide]
          refine x_goto (tgt := 2) dX11_wrong_31 rfl ?_
          exact ih2 (i + 1) I3 (by omega) hF3 hD3 (by rw [← ha, hun, if_neg (fun z => c23 (by rw [z]; rfl))]) (by omega)
        · refine x_iload_n dX11_wrong_26 rfl ?_
          refine x_ireturn dX11_wrong_27 rfl nb_int ?_
          exact ⟨I3, by rw [← ha, hun, if_pos ((nI_le0 (n := ctX (I 128) (i + 1)) (by omega)).mp (by rw [c23]; decide))], rfl, hF3, hD3⟩
  exact K2 _ 0 I (Nat.zero_le _) xFrm.rf xFd.rf (by unfold a_wrong; rw [cN_of e3 (by omega)]; rfl) (Nat.lt_succ_self _)

set_option maxHeartbeats 4000000 in
set_option maxRecDepth 100000 in
theorem r_cheated {g : xG} {nx : Nat} {sh : Nat → Nat × Nat} {P : Nat → Nat → Option Nat} {I : Nat → Nat → Int32} (hx : xFx sh P) (hR : RI (I 128)) : xMet g Y_M_cheated 6 0 0 [.ref 127] (nx, sh, P, I) (fun r σ => ∃ I1 : Nat → Nat → Int32, r = some (.int (a_cheated (I 128))) ∧ σ = (nx, sh, P, I1) ∧ xFrm [127, 130, 131, 133, 134, 135] I I1 ∧ xFd [14, 16] I I1) := by
  refine xMet.of [some (.ref 127)] (by decide +kernel) (Nat.le_of_ble_eq_true rfl) rfl ?_
  refine x_aload_n dX11_cheated_0 rfl ?_
  refine x_callV (k2 := 0) (n2 := 0) dX11_cheated_1 LV_M_202 (r_looksForLeftNow hx hR) rfl rfl (fxo_127 hx) rfl (Nat.le_of_ble_eq_true rfl) (Nat.le_of_ble_eq_true rfl) (Nat.le_of_ble_eq_true rfl) (Nat.le_of_ble_eq_true rfl) ?_
  rintro _ _ ⟨I1, rfl, rfl, hF, hD, hB, hl, hc, hT⟩
  have e128 : I1 128 = I 128 := hF 128 (by decide)
  have hct := ctN_bd hR
  have hl : I1 127 14 = nI (ctN (I 128)) := hl
  have hc : I1 127 16 = lcN (I 128) := hc
  have hT : ∀ c w, c < cN (I 128) 0 → 1 ≤ w → w < 10 → I1 135 (10 * c + w) = nI (ctW (I 128) c w) := hT
  refine x_aload_n dX11_cheated_4 rfl ?_
  refine y_geti dX11_cheated_5 F_M_187 (fxo_127 hx) rfl hc ?_
  refine x_bipush (v := 60) dX11_cheated_8 (by decide) ?_
  refine x_icmp_le (tgt := 18) dX11_cheated_10 rfl (fun c10 => ?_) (fun c10 => ?_)
  · refine x_aload_n dX11_cheated_18 rfl ?_
    refine y_geti dX11_cheated_19 F_M_187 (fxo_127 hx) rfl hc ?_
    refine x_ireturn dX11_cheated_22 rfl nb_int ?_
    first | exact ⟨I1, by unfold a_cheated; rw [if_pos c10], rfl, hF, hD⟩ | exact ⟨I1, by unfold a_cheated; rw [if_neg c10], rfl, hF, hD⟩
  · refine x_bipush (v := (-5)) dX11_cheated_13 (by decide) ?_
    refine x_goto (tgt := 22) dX11_cheated_15 rfl ?_
    refine x_ireturn dX11_cheated_22 rfl nb_int ?_
    first | exact ⟨I1, by unfold a_cheated; rw [if_pos c10], rfl, hF, hD⟩ | exact ⟨I1, by unfold a_cheated; rw [if_neg c10], rfl, hF, hD⟩

theorem moS_s {s : Nat → Int32} {a b n : Nat} (h : okG s (tN s) (cN s 3) n = true) : moS s a b (n + 1) = moS s a b n + if 0 < dfG s a b n then 1 else 0 := ctB_and (c := fun g => 0 < dfG s a b g) h
theorem moS_n {s : Nat → Int32} {a b n : Nat} (h : ¬ okG s (tN s) (cN s 3) n = true) : moS s a b (n + 1) = moS s a b n := ctB_nand h
theorem leS_s {s : Nat → Int32} {a b n : Nat} (h : okG s (tN s) (cN s 3) n = true) : leS s a b (n + 1) = leS s a b n + if dfG s a b n < 0 then 1 else 0 := ctB_and (c := fun g => dfG s a b g < 0) h
theorem leS_n {s : Nat → Int32} {a b n : Nat} (h : ¬ okG s (tN s) (cN s 3) n = true) : leS s a b (n + 1) = leS s a b n := ctB_nand h
theorem alS_s {s : Nat → Int32} {a b n : Nat} (h : okG s (tN s) (cN s 3) n = true) : alS s a b (n + 1) = alS s a b n + if dfG s a b n = 0 then 1 else 0 := ctB_and (c := fun g => dfG s a b g = 0) h
theorem alS_n {s : Nat → Int32} {a b n : Nat} (h : ¬ okG s (tN s) (cN s 3) n = true) : alS s a b (n + 1) = alS s a b n := ctB_nand h

set_option maxHeartbeats 4000000 in
set_option maxRecDepth 100000 in
theorem r_weighs {g : xG} {nx : Nat} {sh : Nat → Nat × Nat} {P : Nat → Nat → Option Nat} {I : Nat → Nat → Int32} (hx : xFx sh P) {a b : Nat} (hR : RI (I 128)) (hB : xBB I) (haC : a < cN (I 128) 0) (hbC : b < cN (I 128) 0) : xMet g Y_M_weighs 3 0 0 [.ref 127, .int (nI a), .int (nI b)] (nx, sh, P, I) (fun r σ => ∃ I1 : Nat → Nat → Int32, r = none ∧ σ = (nx, sh, P, I1) ∧ xFrm [127, 134] I I1 ∧ xFd [17, 18, 19] I I1 ∧ xBB I1 ∧ I1 127 17 = nI (moS (I 128) a b (gN (I 128))) ∧ I1 127 18 = nI (leS (I 128) a b (gN (I 128))) ∧ I1 127 19 = nI (alS (I 128) a b (gN (I 128)))) := by
  refine xMet.of [some (.ref 127), some (.int (nI a)), some (.int (nI b)), none, none, none] (by decide +kernel) (Nat.le_of_ble_eq_true rfl) rfl ?_
  obtain ⟨ht1, ht9, ht⟩ := tN_bd hR
  have hc4 := hR.c0.2
  have hgN := gN_bd hR
  have hgb : gN (I 128) < 2 ^ 31 := by omega
  refine x_aload_n dX11_weighs_0 rfl ?_
  refine x_iconst (v := 0) dX11_weighs_1 (by decide) ?_
  refine x_puti dX11_weighs_2 F_M_217 T_11_17 (fxo_127 hx) rfl rfl rfl ?_
  refine x_aload_n dX11_weighs_5 rfl ?_
  refine x_iconst (v := 0) dX11_weighs_6 (by decide) ?_
  refine x_puti dX11_weighs_7 F_M_220 T_11_18 (fxo_127 hx) rfl rfl rfl ?_
  refine x_aload_n dX11_weighs_10 rfl ?_
  refine x_iconst (v := 0) dX11_weighs_11 (by decide) ?_
  refine x_puti dX11_weighs_12 F_M_223 T_11_19 (fxo_127 hx) rfl rfl rfl ?_
  obtain ⟨I0, hI0⟩ : ∃ I0, I0 = xup (xup (xup I 127 17 0) 127 18 0) 127 19 0 := ⟨_, rfl⟩
  rw [← hI0]
  have z128 : I0 128 = I 128 := by rw [hI0, xup_n (by decide), xup_n (by decide), xup_n (by decide)]
  have hF0 : xFrm [127, 134] I I0 := by rw [hI0]; exact xFrs (xFrs (xFrs xFrm.rf))
  have hD0 : xFd [17, 18, 19] I I0 := by rw [hI0]; exact xFdx (xFdx (xFdx xFd.rf))
  have hB0 : xBB I0 := by rw [hI0]; exact hB.up.up.up
  have m0 : I0 127 17 = 0 := by rw [hI0, xup_at, if_neg (by decide), xup_at, if_neg (by decide), xup_at, if_pos ⟨rfl, rfl⟩]
  have l0 : I0 127 18 = 0 := by rw [hI0, xup_at, if_neg (by decide), xup_at, if_pos ⟨rfl, rfl⟩]
  have a0 : I0 127 19 = 0 := by rw [hI0, xup_at, if_pos ⟨rfl, rfl⟩]
  refine x_aload_n dX11_weighs_15 rfl ?_
  refine x_callV (k2 := 0) (n2 := 0) dX11_weighs_16 LV_M_190 (r_guesses (t := tN (I 128)) hx (by rw [z128]; exact hR) (by rw [z128]; exact ht)) rfl rfl (fxo_127 hx) rfl (Nat.le_of_ble_eq_true rfl) (Nat.le_of_ble_eq_true rfl) (Nat.le_of_ble_eq_true rfl) (Nat.le_of_ble_eq_true rfl) ?_
  rintro _ _ ⟨rfl, rfl⟩
  rw [z128, show tN (I 128) ^ cN (I 128) 0 = gN (I 128) from rfl]
  refine x_istore_n dX11_weighs_19 (Nat.le_of_ble_eq_true rfl) ?_
  try simp only [xst, xst2, xclr, xset, xwide]
  refine x_iconst (v := 0) dX11_weighs_20 (by decide) ?_
  refine x_istore dX11_weighs_21 (Nat.le_of_ble_eq_true rfl) ?_
  try simp only [xst, xst2, xclr, xset, xwide]
  have K23 : ∀ (fuel : Nat) (gi : Nat) (v5 : Option Value) (I3 : Nat → Nat → Int32) (hg : gi ≤ gN (I 128)) (hF : xFrm [127, 134] I I3) (hD : xFd [17, 18, 19] I I3) (hB : xBB I3) (hmo : I3 127 17 = nI (moS (I 128) a b gi)) (hl : I3 127 18 = nI (leS (I 128) a b gi)) (ha : I3 127 19 = nI (alS (I 128) a b gi)), gN (I 128) - gi < fuel → xX g Y_M_weighs 3 0 0 (fun r σ => ∃ I1 : Nat → Nat → Int32, r = none ∧ σ = (nx, sh, P, I1) ∧ xFrm [127, 134] I I1 ∧ xFd [17, 18, 19] I I1 ∧ xBB I1 ∧ I1 127 17 = nI (moS (I 128) a b (gN (I 128))) ∧ I1 127 18 = nI (leS (I 128) a b (gN (I 128))) ∧ I1 127 19 = nI (alS (I 128) a b (gN (I 128)))) 23 [some (.ref 127), some (.int (nI a)), some (.int (nI b)), some (.int (nI (gN (I 128)))), some (.int (nI gi)), v5] [] (nx, sh, P, I3) := by
    intro fuel
    induction fuel with
    | zero => intro gi v5 I3 hg hF hD hB hmo hl ha hm; exact absurd hm (Nat.not_lt_zero _)
    | succ fuel ih23 =>
      intro gi v5 I3 hg hF hD hB hmo hl ha hm
      refine x_iload dX11_weighs_23 rfl ?_
      refine x_iload_n dX11_weighs_25 rfl ?_
      refine x_icmp_ge (tgt := 150) dX11_weighs_26 rfl (fun c26 => ?_) (fun c26 => ?_)
      · have hie : gi = gN (I 128) := cge_t hgb hg c26
        subst hie
        refine x_return dX11_weighs_150 rfl ?_
        exact ⟨I3, rfl, rfl, hF, hD, hB, hmo, hl, ha⟩
      · have hgm : gi < gN (I 128) := cge_f hgb hg c26
        have f128 : I3 128 = I 128 := hF 128 (by decide)
        refine x_aload_n dX11_weighs_29 rfl ?_
        refine x_iload dX11_weighs_30 rfl ?_
        refine x_callV (k2 := 0) (n2 := 0) dX11_weighs_32 LV_M_193 (r_tellsGuess (t := tN (I 128)) (g0 := gi) hx (by rw [f128]; exact hR) (by rw [f128]; exact ht) ht1 ht9 (by omega)) rfl rfl (fxo_127 hx) rfl (Nat.le_of_ble_eq_true rfl) (Nat.le_of_ble_eq_true rfl) (Nat.le_of_ble_eq_true rfl) (Nat.le_of_ble_eq_true rfl) ?_
        rintro _ _ ⟨f, rfl, rfl, hf⟩
        have g128 : va_up I3 134 f 128 = I 128 := (va_up_no (by decide)).trans f128
        have hG : xGs (va_up I3 134 f) (dg (tN (I 128)) gi) := fun c hc => ⟨by rw [va_up_at]; exact hf c (by rw [f128]; rw [g128] at hc; exact hc), (dg_in ht1 ht9).1, (dg_in ht1 ht9).2⟩
        refine x_aload_n dX11_weighs_35 rfl ?_
        refine x_aload_n dX11_weighs_36 rfl ?_
        refine y_getr dX11_weighs_37 F_M_9 (fxo_127 hx) rfl (fxp_127_1 hx) ?_
        refine x_iconst (v := 3) dX11_weighs_40 (by decide) ?_
        refine y_iaload dX11_weighs_41 (fxk_128 hx) (vi (j := 3) rfl (by omega) (by decide)) (rI (j := 3) (ci rfl (by omega)) ((congrFun g128 _).trans (hR.1 3 (by decide)))) ?_
        refine x_callV (k2 := 0) (n2 := 0) dX11_weighs_42 LV_M_196 (r_cheatBy (b := cN (I 128) 3) (gv := dg (tN (I 128)) gi) hx (by rw [g128]; exact hR) hB.va hG (hR.2.1.2.2.2.1)) rfl rfl (fxo_127 hx) rfl (Nat.le_of_ble_eq_true rfl) (Nat.le_of_ble_eq_true rfl) (Nat.le_of_ble_eq_true rfl) (Nat.le_of_ble_eq_true rfl) ?_
        rintro _ _ ⟨rfl, rfl⟩
        rw [g128]
        refine x_aload_n dX11_weighs_45 rfl ?_
        refine x_callV (k2 := 0) (n2 := 0) dX11_weighs_46 LV_M_171 (r_cheatNow hx (by rw [g128]; exact hR.hd)) rfl rfl (fxo_127 hx) rfl (Nat.le_of_ble_eq_true rfl) (Nat.le_of_ble_eq_true rfl) (Nat.le_of_ble_eq_true rfl) (Nat.le_of_ble_eq_true rfl) ?_
        rintro _ _ ⟨rfl, rfl⟩
        rw [g128]
        refine x_icmp_gt (tgt := 144) dX11_weighs_49 rfl (fun c49 => ?_) (fun c49 => ?_)
        · have hok : ¬ okG (I 128) (tN (I 128)) (cN (I 128) 3) gi = true := fun z => absurd (of_decide_eq_true z) (Int32.not_le.mpr c49)
          refine x_iinc (v := (nI (gi + 1))) dX11_weighs_144 rfl (nI_1 _) (Nat.le_of_ble_eq_true rfl) ?_
          try simp only [xst, xst2, xclr, xset, xwide]
          refine x_goto (tgt := 23) dX11_weighs_147 rfl ?_
          first | exact ih23 (gi + 1) _ _ (by omega) (xFrv hF) (xFdva hD) hB.va (by rw [va_up_no (by decide), hmo, moS_n hok]) (by rw [va_up_no (by decide), hl, leS_n hok]) (by rw [va_up_no (by decide), ha, alS_n hok]) (by omega) | exact ih23 (gi + 1) _ _ (by omega) (xFrs (xFrs (xFrs (xFrv hF)))) (xFdx (xFdx (xFdx (xFdva hD)))) hB.va.up.up.up (by rw [xup_at, if_neg (by decide), xup_at, if_neg (by decide), xup_at, if_pos ⟨rfl, rfl⟩, hx102, nI_add, moS_s hok]) (by rw [xup_at, if_neg (by decide), xup_at, if_pos ⟨rfl, rfl⟩, hx121, nI_add, leS_s hok]) (by rw [xup_at, if_pos ⟨rfl, rfl⟩, hx140, nI_add, alS_s hok]) (by omega)
        · have hok : okG (I 128) (tN (I 128)) (cN (I 128) 3) gi = true := decide_eq_true (Int32.not_lt.mp c49)
          have da1 := (dg_in (g := gi) (c := a) ht1 ht9).1
          have da9 := (dg_in (g := gi) (c := a) ht1 ht9).2
          have db1 := (dg_in (g := gi) (c := b) ht1 ht9).1
          have db9 := (dg_in (g := gi) (c := b) ht1 ht9).2
          have hca : a < cN (va_up I3 134 f 128) 0 := by rw [g128]; exact haC
          have hcb : b < cN (va_up I3 134 f 128) 0 := by rw [g128]; exact hbC
          have hba := (show xBB (va_up I3 134 f) from hB.va) a _ hca da1 da9
          have hbb := (show xBB (va_up I3 134 f) from hB.va) b _ hcb db1 db9
          rw [g128] at hba hbb
          refine x_aload_n dX11_weighs_52 rfl ?_
          refine y_getr dX11_weighs_53 F_M_28 (fxo_127 hx) rfl (fxp_127_12 hx) ?_
          refine x_bipush (v := 10) dX11_weighs_56 (by decide) ?_
          refine x_iload_n dX11_weighs_58 rfl ?_
          refine x_imul dX11_weighs_59 ?_
          refine x_aload_n dX11_weighs_60 rfl ?_
          refine y_getr dX11_weighs_61 F_M_31 (fxo_127 hx) rfl (fxp_127_13 hx) ?_
          refine x_iload_n dX11_weighs_64 rfl ?_
          refine y_iaload dX11_weighs_65 (fxk_134 hx) (vi (j := a) rfl (by omega) (by decide)) (rI (j := a) (ci rfl (by omega)) ((hG a hca).1)) ?_
          refine x_iadd dX11_weighs_66 ?_
          refine y_iaload dX11_weighs_67 (fxk_133 hx) (vi (j := ((10 * a) + (dg (tN (I 128)) gi a))) (nadd (a := (10 * a)) (b := (dg (tN (I 128)) gi a)) (nmul (a := 10) (b := a) rfl rfl) rfl) (by omega) (by decide)) (rI (j := ((10 * a) + (dg (tN (I 128)) gi a))) (ci (nadd (a := (10 * a)) (b := (dg (tN (I 128)) gi a)) (nmul (a := 10) (b := a) rfl rfl) rfl) (by omega)) hba) ?_
          refine x_aload_n dX11_weighs_68 rfl ?_
          refine y_getr dX11_weighs_69 F_M_28 (fxo_127 hx) rfl (fxp_127_12 hx) ?_
          refine x_bipush (v := 10) dX11_weighs_72 (by decide) ?_
          refine x_iload_n dX11_weighs_74 rfl ?_
          refine x_imul dX11_weighs_75 ?_
          refine x_aload_n dX11_weighs_76 rfl ?_
          refine y_getr dX11_weighs_77 F_M_31 (fxo_127 hx) rfl (fxp_127_13 hx) ?_
          refine x_iload_n dX11_weighs_80 rfl ?_
          refine y_iaload dX11_weighs_81 (fxk_134 hx) (vi (j := b) rfl (by omega) (by decide)) (rI (j := b) (ci rfl (by omega)) ((hG b hcb).1)) ?_
          refine x_iadd dX11_weighs_82 ?_
          refine y_iaload dX11_weighs_83 (fxk_133 hx) (vi (j := ((10 * b) + (dg (tN (I 128)) gi b))) (nadd (a := (10 * b)) (b := (dg (tN (I 128)) gi b)) (nmul (a := 10) (b := b) rfl rfl) rfl) (by omega) (by decide)) (rI (j := ((10 * b) + (dg (tN (I 128)) gi b))) (ci (nadd (a := (10 * b)) (b := (dg (tN (I 128)) gi b)) (nmul (a := 10) (b := b) rfl rfl) rfl) (by omega)) hbb) ?_
          refine x_isub dX11_weighs_84 ?_
          rw [show wb (I 128) a (dg (tN (I 128)) gi a) - wb (I 128) b (dg (tN (I 128)) gi b) = dfG (I 128) a b gi from rfl]
          refine x_istore dX11_weighs_85 (Nat.le_of_ble_eq_true rfl) ?_
          try simp only [xst, xst2, xclr, xset, xwide]
          have J102 : ∀ (x102 : Int32) (hx102 : x102 = nI (if 0 < dfG (I 128) a b gi then 1 else 0)), xX g Y_M_weighs 3 0 0 (fun r σ => ∃ I1 : Nat → Nat → Int32, r = none ∧ σ = (nx, sh, P, I1) ∧ xFrm [127, 134] I I1 ∧ xFd [17, 18, 19] I I1 ∧ xBB I1 ∧ I1 127 17 = nI (moS (I 128) a b (gN (I 128))) ∧ I1 127 18 = nI (leS (I 128) a b (gN (I 128))) ∧ I1 127 19 = nI (alS (I 128) a b (gN (I 128)))) 102 [some (.ref 127), some (.int (nI a)), some (.int (nI b)), some (.int (nI (gN (I 128)))), some (.int (nI gi)), some (.int (dfG (I 128) a b gi))] [.int x102, .int (nI (moS (I 128) a b gi)), .ref 127] (nx, sh, P, va_up I3 134 f) := by
            intro x102 hx102
            refine x_iadd dX11_weighs_102 ?_
            refine x_puti dX11_weighs_103 F_M_217 T_11_17 (fxo_127 hx) rfl rfl rfl ?_
            have J121 : ∀ (x121 : Int32) (hx121 : x121 = nI (if dfG (I 128) a b gi < 0 then 1 else 0)), xX g Y_M_weighs 3 0 0 (fun r σ => ∃ I1 : Nat → Nat → Int32, r = none ∧ σ = (nx, sh, P, I1) ∧ xFrm [127, 134] I I1 ∧ xFd [17, 18, 19] I I1 ∧ xBB I1 ∧ I1 127 17 = nI (moS (I 128) a b (gN (I 128))) ∧ I1 127 18 = nI (leS (I 128) a b (gN (I 128))) ∧ I1 127 19 = nI (alS (I 128) a b (gN (I 128)))) 121 [some (.ref 127), some (.int (nI a)), some (.int (nI b)), some (.int (nI (gN (I 128)))), some (.int (nI gi)), some (.int (dfG (I 128) a b gi))] [.int x121, .int (nI (leS (I 128) a b gi)), .ref 127] (nx, sh, P, xup (va_up I3 134 f) 127 17 (nI (moS (I 128) a b gi) + x102)) := by
              intro x121 hx121
              refine x_iadd dX11_weighs_121 ?_
              refine x_puti dX11_weighs_122 F_M_220 T_11_18 (fxo_127 hx) rfl rfl rfl ?_
              have J140 : ∀ (x140 : Int32) (hx140 : x140 = nI (if dfG (I 128) a b gi = 0 then 1 else 0)), xX g Y_M_weighs 3 0 0 (fun r σ => ∃ I1 : Nat → Nat → Int32, r = none ∧ σ = (nx, sh, P, I1) ∧ xFrm [127, 134] I I1 ∧ xFd [17, 18, 19] I I1 ∧ xBB I1 ∧ I1 127 17 = nI (moS (I 128) a b (gN (I 128))) ∧ I1 127 18 = nI (leS (I 128) a b (gN (I 128))) ∧ I1 127 19 = nI (alS (I 128) a b (gN (I 128)))) 140 [some (.ref 127), some (.int (nI a)), some (.int (nI b)), some (.int (nI (gN (I 128)))), some (.int (nI gi)), some (.int (dfG (I 128) a b gi))] [.int x140, .int (nI (alS (I 128) a b gi)), .ref 127] (nx, sh, P, xup (xup (va_up I3 134 f) 127 17 (nI (moS (I 128) a b gi) + x102)) 127 18 (nI (leS (I 128) a b gi) + x121)) := by
                intro x140 hx140
                refine x_iadd dX11_weighs_140 ?_
                refine x_puti dX11_weighs_141 F_M_223 T_11_19 (fxo_127 hx) rfl rfl rfl ?_
                refine x_iinc (v := (nI (gi + 1))) dX11_weighs_144 rfl (nI_1 _) (Nat.le_of_ble_eq_true rfl) ?_
                try simp only [xst, xst2, xclr, xset, xwide]
                refine x_goto (tgt := 23) dX11_weighs_147 rfl ?_
                first | exact ih23 (gi + 1) _ _ (by omega) (xFrv hF) (xFdva hD) hB.va (by rw [va_up_no (by decide), hmo, moS_n hok]) (by rw [va_up_no (by decide), hl, leS_n hok]) (by rw [va_up_no (by decide), ha, alS_n hok]) (by omega) | exact ih23 (gi + 1) _ _ (by omega) (xFrs (xFrs (xFrs (xFrv hF)))) (xFdx (xFdx (xFdx (xFdva hD)))) hB.va.up.up.up (by rw [xup_at, if_neg (by decide), xup_at, if_neg (by decide), xup_at, if_pos ⟨rfl, rfl⟩, hx102, nI_add, moS_s hok]) (by rw [xup_at, if_neg (by decide), xup_at, if_pos ⟨rfl, rfl⟩, hx121, nI_add, leS_s hok]) (by rw [xup_at, if_pos ⟨rfl, rfl⟩, hx140, nI_add, alS_s hok]) (by omega)
              refine x_aload_n dX11_weighs_125 rfl ?_
              refine x_dup dX11_weighs_126 rfl ?_
              refine y_geti dX11_weighs_127 F_M_223 (fxo_127 hx) rfl (Eq.trans (b := I3 127 19) (by rw [xup_at, if_neg (by decide), xup_at, if_neg (by decide), va_up_no (by decide)]) ha) ?_
              refine x_iload dX11_weighs_130 rfl ?_
              refine x_if_ne (tgt := 139) dX11_weighs_132 rfl (fun c132 => ?_) (fun c132 => ?_)
              · refine x_iconst (v := 0) dX11_weighs_139 (by decide) ?_
                first | exact J140 _ (by rw [if_pos (by first | exact c132 | exact Int32.not_le.mp c132)]; rfl) | exact J140 _ (by rw [if_neg (by first | exact c132 | exact Int32.not_lt.mpr c132)]; rfl)
              · refine x_iconst (v := 1) dX11_weighs_135 (by decide) ?_
                refine x_goto (tgt := 140) dX11_weighs_136 rfl ?_
                first | exact J140 _ (by rw [if_pos (by first | exact c132 | exact Int32.not_le.mp c132)]; rfl) | exact J140 _ (by rw [if_neg (by first | exact c132 | exact Int32.not_lt.mpr c132)]; rfl)
            refine x_aload_n dX11_weighs_106 rfl ?_
            refine x_dup dX11_weighs_107 rfl ?_
            refine y_geti dX11_weighs_108 F_M_220 (fxo_127 hx) rfl (Eq.trans (b := I3 127 18) (by rw [xup_at, if_neg (by decide), va_up_no (by decide)]) hl) ?_
            refine x_iload dX11_weighs_111 rfl ?_
            refine x_if_ge (tgt := 120) dX11_weighs_113 rfl (fun c113 => ?_) (fun c113 => ?_)
            · refine x_iconst (v := 0) dX11_weighs_120 (by decide) ?_
              first | exact J121 _ (by rw [if_pos (by first | exact c113 | exact Int32.not_le.mp c113)]; rfl) | exact J121 _ (by rw [if_neg (by first | exact c113 | exact Int32.not_lt.mpr c113)]; rfl)
            · refine x_iconst (v := 1) dX11_weighs_116 (by decide) ?_
              refine x_goto (tgt := 121) dX11_weighs_117 rfl ?_
              first | exact J121 _ (by rw [if_pos (by first | exact c113 | exact Int32.not_le.mp c113)]; rfl) | exact J121 _ (by rw [if_neg (by first | exact c113 | exact Int32.not_lt.mpr c113)]; rfl)
          refine x_aload_n dX11_weighs_87 rfl ?_
          refine x_dup dX11_weighs_88 rfl ?_
          refine y_geti dX11_weighs_89 F_M_217 (fxo_127 hx) rfl ((congrFun (va_up_no (by decide)) 17).trans hmo) ?_
          refine x_iload dX11_weighs_92 rfl ?_
          refine x_if_le (tgt := 101) dX11_weighs_94 rfl (fun c94 => ?_) (fun c94 => ?_)
          · refine x_iconst (v := 0) dX11_weighs_101 (by decide) ?_
            first | exact J102 _ (by rw [if_pos (by first | exact c94 | exact Int32.not_le.mp c94)]; rfl) | exact J102 _ (by rw [if_neg (by first | exact c94 | exact Int32.not_lt.mpr c94)]; rfl)
          · refine x_iconst (v := 1) dX11_weighs_97 (by decide) ?_
            refine x_goto (tgt := 102) dX11_weighs_98 rfl ?_
            first | exact J102 _ (by rw [if_pos (by first | exact c94 | exact Int32.not_le.mp c94)]; rfl) | exact J102 _ (by rw [if_neg (by first | exact c94 | exact Int32.not_lt.mpr c94)]; rfl)
  exact K23 _ 0 none I0 (Nat.zero_le _) hF0 hD0 hB0 m0 l0 a0 (Nat.lt_succ_self _)

theorem moS_bd {s : Nat → Int32} (h : RI s) {a b : Nat} : moS s a b (gN s) ≤ 6561 := Nat.le_trans (ctB_le _) (gN_bd h)
theorem leS_bd {s : Nat → Int32} (h : RI s) {a b : Nat} : leS s a b (gN s) ≤ 6561 := Nat.le_trans (ctB_le _) (gN_bd h)
theorem alS_bd {s : Nat → Int32} (h : RI s) {a b : Nat} : alS s a b (gN s) ≤ 6561 := Nat.le_trans (ctB_le _) (gN_bd h)

set_option maxHeartbeats 4000000 in
set_option maxRecDepth 100000 in
theorem r_worst {g : xG} {nx : Nat} {sh : Nat → Nat × Nat} {P : Nat → Nat → Option Nat} {I : Nat → Nat → Int32} (hx : xFx sh P) {x y z : Nat} (hx6 : x ≤ 6561) (hy6 : y ≤ 6561) (hz6 : z ≤ 6561) (hm : I 127 17 = nI x) (hl : I 127 18 = nI y) (ha : I 127 19 = nI z) : xMet g Y_M_worst 0 0 0 [.ref 127] (nx, sh, P, I) (fun r σ => r = some (.int (nI (max (max x y) z))) ∧ σ = (nx, sh, P, I)) := by
  refine xMet.of [some (.ref 127), none] (by decide +kernel) (Nat.le_of_ble_eq_true rfl) rfl ?_
  refine x_aload_n dX11_worst_0 rfl ?_
  refine y_geti dX11_worst_1 F_M_217 (fxo_127 hx) rfl hm ?_
  refine x_aload_n dX11_worst_4 rfl ?_
  refine y_geti dX11_worst_5 F_M_220 (fxo_127 hx) rfl hl ?_
  have j1 := nI_leI (a := x) (b := y) (by omega) (by omega)
  have j2 := nI_leI (a := z) (b := x) (by omega) (by omega)
  have j3 := nI_leI (a := z) (b := y) (by omega) (by omega)
  refine x_icmp_le (tgt := 18) dX11_worst_8 rfl (fun c8 => ?_) (fun c8 => ?_)
  · refine x_aload_n dX11_worst_18 rfl ?_
    refine y_geti dX11_worst_19 F_M_220 (fxo_127 hx) rfl hl ?_
    refine x_istore_n dX11_worst_22 (Nat.le_of_ble_eq_true rfl) ?_
    try simp only [xst, xst2, xclr, xset, xwide]
    refine x_aload_n dX11_worst_23 rfl ?_
    refine y_geti dX11_worst_24 F_M_223 (fxo_127 hx) rfl ha ?_
    refine x_iload_n dX11_worst_27 rfl ?_
    refine x_icmp_le (tgt := 38) dX11_worst_28 rfl (fun c28 => ?_) (fun c28 => ?_)
    · refine x_iload_n dX11_worst_38 rfl ?_
      refine x_ireturn dX11_worst_39 rfl nb_int ?_
      rw [j1] at c8
      first | rw [j2] at c28 | rw [j3] at c28
      exact ⟨by first | rw [show max (max x y) z = z by omega] | rw [show max (max x y) z = x by omega] | rw [show max (max x y) z = y by omega], rfl⟩
    · refine x_aload_n dX11_worst_31 rfl ?_
      refine y_geti dX11_worst_32 F_M_223 (fxo_127 hx) rfl ha ?_
      refine x_goto (tgt := 39) dX11_worst_35 rfl ?_
      refine x_ireturn dX11_worst_39 rfl nb_int ?_
      rw [j1] at c8
      first | rw [j2] at c28 | rw [j3] at c28
      exact ⟨by first | rw [show max (max x y) z = z by omega] | rw [show max (max x y) z = x by omega] | rw [show max (max x y) z = y by omega], rfl⟩
  · refine x_aload_n dX11_worst_11 rfl ?_
    refine y_geti dX11_worst_12 F_M_217 (fxo_127 hx) rfl hm ?_
    refine x_goto (tgt := 22) dX11_worst_15 rfl ?_
    refine x_istore_n dX11_worst_22 (Nat.le_of_ble_eq_true rfl) ?_
    try simp only [xst, xst2, xclr, xset, xwide]
    refine x_aload_n dX11_worst_23 rfl ?_
    refine y_geti dX11_worst_24 F_M_223 (fxo_127 hx) rfl ha ?_
    refine x_iload_n dX11_worst_27 rfl ?_
    refine x_icmp_le (tgt := 38) dX11_worst_28 rfl (fun c28 => ?_) (fun c28 => ?_)
    · refine x_iload_n dX11_worst_38 rfl ?_
      refine x_ireturn dX11_worst_39 rfl nb_int ?_
      rw [j1] at c8
      first | rw [j2] at c28 | rw [j3] at c28
      exact ⟨by first | rw [show max (max x y) z = z by omega] | rw [show max (max x y) z = x by omega] | rw [show max (max x y) z = y by omega], rfl⟩
    · refine x_aload_n dX11_worst_31 rfl ?_
      refine y_geti dX11_worst_32 F_M_223 (fxo_127 hx) rfl ha ?_
      refine x_goto (tgt := 39) dX11_worst_35 rfl ?_
      refine x_ireturn dX11_worst_39 rfl nb_int ?_
      rw [j1] at c8
      first | rw [j2] at c28 | rw [j3] at c28
      exact ⟨by first | rw [show max (max x y) z = z by omega] | rw [show max (max x y) z = x by omega] | rw [show max (max x y) z = y by omega], rfl⟩

set_option maxHeartbeats 4000000 in
set_option maxRecDepth 100000 in
theorem r_alike {g : xG} {nx : Nat} {sh : Nat → Nat × Nat} {P : Nat → Nat → Option Nat} {I : Nat → Nat → Int32} (hx : xFx sh P) {a b : Int32} (hR : RI (I 128)) : xMet g Y_M_alike 4 0 0 [.ref 127, .int a, .int b] (nx, sh, P, I) (fun r σ => ∃ I1 : Nat → Nat → Int32, r = some (.int (a_alike (I 128) a b)) ∧ σ = (nx, sh, P, I1) ∧ xFrm [127, 130, 131, 133, 134] I I1 ∧ xFd [17, 18, 19] I I1) := by
  refine xMet.of [some (.ref 127), some (.int a), some (.int b)] (by decide +kernel) (Nat.le_of_ble_eq_true rfl) rfl ?_
  obtain ⟨⟨n0, b0, e0⟩, ⟨n1, b1, e1⟩, ⟨n2, b2, e2⟩, ⟨n3, b3, e3⟩, ⟨n4, b4, e4⟩, ⟨n5, b5, e5⟩, ⟨n6, b6, e6⟩, ⟨n7, b7, e7⟩, ⟨n9, b9, e9⟩⟩ := hR.k
  refine x_aload_n dX11_alike_0 rfl ?_
  refine x_iload_n dX11_alike_1 rfl ?_
  refine x_callV (k2 := 0) (n2 := 0) dX11_alike_2 LV_M_161 (r_isCoin hx hR.nn0) rfl rfl (fxo_127 hx) rfl (Nat.le_of_ble_eq_true rfl) (Nat.le_of_ble_eq_true rfl) (Nat.le_of_ble_eq_true rfl) (Nat.le_of_ble_eq_true rfl) ?_
  rintro _ _ ⟨rfl, rfl⟩
  refine x_if_eq (tgt := 16) dX11_alike_5 rfl (fun c5 => ?_) (fun c5 => ?_)
  · refine x_iconst (v := (-1)) dX11_alike_16 (by decide) ?_
    refine x_ireturn dX11_alike_17 rfl nb_int ?_
    exact ⟨I, by unfold a_alike; rw [if_neg (fun h => by grind)], rfl, xFrm.rf, xFd.rf⟩
  · refine x_aload_n dX11_alike_8 rfl ?_
    refine x_iload_n dX11_alike_9 rfl ?_
    refine x_callV (k2 := 0) (n2 := 0) dX11_alike_10 LV_M_161 (r_isCoin hx hR.nn0) rfl rfl (fxo_127 hx) rfl (Nat.le_of_ble_eq_true rfl) (Nat.le_of_ble_eq_true rfl) (Nat.le_of_ble_eq_true rfl) (Nat.le_of_ble_eq_true rfl) ?_
    rintro _ _ ⟨rfl, rfl⟩
    refine x_if_ne (tgt := 18) dX11_alike_13 rfl (fun c13 => ?_) (fun c13 => ?_)
    · obtain ⟨q, hq, rfl⟩ := i_2 (n := n0) (by omega) (by rw [← e0]; exact b_t c5)
      obtain ⟨q2, hq2, rfl⟩ := i_2 (n := n0) (by omega) (by rw [← e0]; exact b_t c13)
      have hqc : q < cN (I 128) 0 := by rw [cN_of e0 (by omega)]; exact hq
      have hqc2 : q2 < cN (I 128) 0 := by rw [cN_of e0 (by omega)]; exact hq2
      refine x_iload_n dX11_alike_18 rfl ?_
      refine x_iload_n dX11_alike_19 rfl ?_
      refine x_icmp_ne (tgt := 26) dX11_alike_20 rfl (fun c20 => ?_) (fun c20 => ?_)
      · refine x_aload_n dX11_alike_26 rfl ?_
        refine x_callV (k2 := 0) (n2 := 0) dX11_alike_27 LV_M_181 (r_looksForAll hx hR) rfl rfl (fxo_127 hx) rfl (Nat.le_of_ble_eq_true rfl) (Nat.le_of_ble_eq_true rfl) (Nat.le_of_ble_eq_true rfl) (Nat.le_of_ble_eq_true rfl) ?_
        rintro _ _ ⟨I1, rfl, rfl, hF0, hB0⟩
        have e128 : I1 128 = I 128 := hF0 128 (by decide)
        refine x_aload_n dX11_alike_30 rfl ?_
        refine x_iload_n dX11_alike_31 rfl ?_
        refine x_iload_n dX11_alike_32 rfl ?_
        refine x_callV (k2 := 0) (n2 := 0) dX11_alike_33 LV_M_226 (r_weighs (a := q) (b := q2) hx (by rw [e128]; exact hR) (xBB.of0 hB0 e128) (by rw [e128]; exact hqc) (by rw [e128]; exact hqc2)) rfl rfl (fxo_127 hx) rfl (Nat.le_of_ble_eq_true rfl) (Nat.le_of_ble_eq_true rfl) (Nat.le_of_ble_eq_true rfl) (Nat.le_of_ble_eq_true rfl) ?_
        rintro _ _ ⟨I2, rfl, rfl, hF, hD, hB, hm, hl, ha⟩
        rw [e128] at hm hl ha
        have b1 := moS_bd hR (a := q) (b := q2)
        have b2 := leS_bd hR (a := q) (b := q2)
        have b3 := alS_bd hR (a := q) (b := q2)
        have j1 := nI_le0 (n := alS (I 128) q q2 (gN (I 128))) (by omega)
        have j2 : nI (moS (I 128) q q2 (gN (I 128))) = 0 ↔ moS (I 128) q q2 (gN (I 128)) = 0 := ⟨fun z => (nI_le0 (by omega)).mp (by rw [z]; decide), fun z => by rw [z]; rfl⟩
        have j3 : nI (leS (I 128) q q2 (gN (I 128))) = 0 ↔ leS (I 128) q q2 (gN (I 128)) = 0 := ⟨fun z => (nI_le0 (by omega)).mp (by rw [z]; decide), fun z => by rw [z]; rfl⟩
        refine x_aload_n dX11_alike_36 rfl ?_
        refine y_geti dX11_alike_37 F_M_223 (fxo_127 hx) rfl ha ?_
        refine x_if_le (tgt := 61) dX11_alike_40 rfl (fun c40 => ?_) (fun c40 => ?_)
        · refine x_iconst (v := 0) dX11_alike_61 (by decide) ?_
          refine x_ireturn dX11_alike_62 rfl nb_int ?_
          refine ⟨I2, ?_, rfl, hF0.tr hF, xFd.tr (l1 := [17, 18, 19]) (xFd.of hF0) hD⟩
          unfold a_alike
          rw [if_pos ⟨b_t c5, b_t c13⟩, if_neg (by exact c20), nI_clamp (by omega), nI_clamp (by omega)]
          rw [j1] at c40
          try rw [j2] at c47
          try rw [j3] at c54
          split <;> first | rfl | (exfalso; omega)
        · refine x_aload_n dX11_alike_43 rfl ?_
          refine y_geti dX11_alike_44 F_M_217 (fxo_127 hx) rfl hm ?_
          refine x_if_ne (tgt := 61) dX11_alike_47 rfl (fun c47 => ?_) (fun c47 => ?_)
          · refine x_iconst (v := 0) dX11_alike_61 (by decide) ?_
            refine x_ireturn dX11_alike_62 rfl nb_int ?_
            refine ⟨I2, ?_, rfl, hF0.tr hF, xFd.tr (l1 := [17, 18, 19]) (xFd.of hF0) hD⟩
            unfold a_alike
            rw [if_pos ⟨b_t c5, b_t c13⟩, if_neg (by exact c20), nI_clamp (by omega), nI_clamp (by omega)]
            rw [j1] at c40
            try rw [j2] at c47
            try rw [j3] at c54
            split <;> first | rfl | (exfalso; omega)
          · refine x_aload_n dX11_alike_50 rfl ?_
            refine y_geti dX11_alike_51 F_M_220 (fxo_127 hx) rfl hl ?_
            refine x_if_ne (tgt := 61) dX11_alike_54 rfl (fun c54 => ?_) (fun c54 => ?_)
            · refine x_iconst (v := 0) dX11_alike_61 (by decide) ?_
              refine x_ireturn dX11_alike_62 rfl nb_int ?_
              refine ⟨I2, ?_, rfl, hF0.tr hF, xFd.tr (l1 := [17, 18, 19]) (xFd.of hF0) hD⟩
              unfold a_alike
              rw [if_pos ⟨b_t c5, b_t c13⟩, if_neg (by exact c20), nI_clamp (by omega), nI_clamp (by omega)]
              rw [j1] at c40
              try rw [j2] at c47
              try rw [j3] at c54
              split <;> first | rfl | (exfalso; omega)
            · refine x_iconst (v := 1) dX11_alike_57 (by decide) ?_
              refine x_goto (tgt := 62) dX11_alike_58 rfl ?_
              refine x_ireturn dX11_alike_62 rfl nb_int ?_
              refine ⟨I2, ?_, rfl, hF0.tr hF, xFd.tr (l1 := [17, 18, 19]) (xFd.of hF0) hD⟩
              unfold a_alike
              rw [if_pos ⟨b_t c5, b_t c13⟩, if_neg (by exact c20), nI_clamp (by omega), nI_clamp (by omega)]
              rw [j1] at c40
              try rw [j2] at c47
              try rw [j3] at c54
              split <;> first | rfl | (exfalso; omega)
      · refine x_bipush (v := (-2)) dX11_alike_23 (by decide) ?_
        refine x_ireturn dX11_alike_25 rfl nb_int ?_
        exact ⟨I, by unfold a_alike; rw [if_pos ⟨b_t c5, b_t c13⟩, if_pos (by first | exact c20 | exact Classical.byContradiction c20)], rfl, xFrm.rf, xFd.rf⟩
    · refine x_iconst (v := (-1)) dX11_alike_16 (by decide) ?_
      refine x_ireturn dX11_alike_17 rfl nb_int ?_
      exact ⟨I, by unfold a_alike; rw [if_neg (fun h => by grind)], rfl, xFrm.rf, xFd.rf⟩

set_option maxHeartbeats 4000000 in
set_option maxRecDepth 100000 in
theorem r_hold {g : xG} {nx : Nat} {sh : Nat → Nat × Nat} {P : Nat → Nat → Option Nat} {I : Nat → Nat → Int32} (hx : xFx sh P) {w : Int32} (hR : RI (I 128)) : xMet g Y_M_hold 6 0 0 [.ref 127, .int w] (nx, sh, P, I) (fun r σ => ∃ I1 : Nat → Nat → Int32, r = some (.int (a_hold (I 128) w)) ∧ σ = (nx, sh, P, I1) ∧ xFrm [127, 130, 131, 133, 134, 135] I I1 ∧ xFd [14, 16, 17, 18, 19] I I1) := by
  refine xMet.of [some (.ref 127), some (.int w), none, none, none, none] (by decide +kernel) (Nat.le_of_ble_eq_true rfl) rfl ?_
  obtain ⟨⟨n0, b0, e0⟩, ⟨n1, b1, e1⟩, ⟨n2, b2, e2⟩, ⟨n3, b3, e3⟩, ⟨n4, b4, e4⟩, ⟨n5, b5, e5⟩, ⟨n6, b6, e6⟩, ⟨n7, b7, e7⟩, ⟨n9, b9, e9⟩⟩ := hR.k
  refine x_iload_n dX11_hold_0 rfl ?_
  refine x_iconst (v := 0) dX11_hold_1 (by decide) ?_
  refine x_iconst (v := 1) dX11_hold_2 (by decide) ?_
  refine x_callS (k2 := 0) (n2 := 0) dX11_hold_3 LS_M_65 r_in rfl rfl (Nat.le_of_ble_eq_true rfl) (Nat.le_of_ble_eq_true rfl) (Nat.le_of_ble_eq_true rfl) (Nat.le_of_ble_eq_true rfl) ?_
  rintro _ _ ⟨rfl, rfl⟩
  refine x_if_ne (tgt := 11) dX11_hold_6 rfl (fun c6 => ?_) (fun c6 => ?_)
  · refine x_aload_n dX11_hold_11 rfl ?_
    refine x_callV (k2 := 0) (n2 := 0) dX11_hold_12 LV_M_202 (r_looksForLeftNow hx hR) rfl rfl (fxo_127 hx) rfl (Nat.le_of_ble_eq_true rfl) (Nat.le_of_ble_eq_true rfl) (Nat.le_of_ble_eq_true rfl) (Nat.le_of_ble_eq_true rfl) ?_
    rintro _ _ ⟨I1, rfl, rfl, hF, hD, hB, hl, hc, hT⟩
    have e128 : I1 128 = I 128 := hF 128 (by decide)
    have hct := ctN_bd hR
    have hl : I1 127 14 = nI (ctN (I 128)) := hl
    have hc : I1 127 16 = lcN (I 128) := hc
    have hT : ∀ c w, c < cN (I 128) 0 → 1 ≤ w → w < 10 → I1 135 (10 * c + w) = nI (ctW (I 128) c w) := hT
    refine x_bipush (v := (-5)) dX11_hold_15 (by decide) ?_
    refine x_istore_n dX11_hold_17 (Nat.le_of_ble_eq_true rfl) ?_
    try simp only [xst, xst2, xclr, xset, xwide]
    refine x_bipush (v := (-5)) dX11_hold_18 (by decide) ?_
    refine x_istore_n dX11_hold_20 (Nat.le_of_ble_eq_true rfl) ?_
    try simp only [xst, xst2, xclr, xset, xwide]
    refine x_iconst (v := 0) dX11_hold_21 (by decide) ?_
    refine x_istore dX11_hold_22 (Nat.le_of_ble_eq_true rfl) ?_
    try simp only [xst, xst2, xclr, xset, xwide]
    have K24 : ∀ (fuel : Nat) (i : Nat) (v5 : Option Value) (I2 : Nat → Nat → Int32) (x y : Int32) (hi : i ≤ n0) (hF : xFrm [127, 130, 131, 133, 134, 135] I I2) (hB : xBB I2) (hl : I2 127 14 = nI (ctN (I 128))) (hDI : xFd [14, 16, 17, 18, 19] I I2) (hp : (x, y) = hdI (I 128) i), n0 - i < fuel → xX g Y_M_hold 6 0 0 (fun r σ => ∃ I1 : Nat → Nat → Int32, r = some (.int (a_hold (I 128) w)) ∧ σ = (nx, sh, P, I1) ∧ xFrm [127, 130, 131, 133, 134, 135] I I1 ∧ xFd [14, 16, 17, 18, 19] I I1) 24 [some (.ref 127), some (.int w), some (.int x), some (.int y), some (.int (nI i)), v5] [] (nx, sh, P, I2) := by
      intro fuel
      induction fuel with
      | zero => intro i v5 I2 x y hi hF hB hl hDI hp hm; exact absurd hm (Nat.not_lt_zero _)
      | succ fuel ih24 =>
        intro i v5 I2 x y hi hF hB hl hDI hp hm
        refine x_iload dX11_hold_24 rfl ?_
        have f128 : I2 128 = I 128 := hF 128 (by decide)
        refine x_aload_n dX11_hold_26 rfl ?_
        refine y_getr dX11_hold_27 F_M_9 (fxo_127 hx) rfl (fxp_127_1 hx) ?_
        refine x_iconst (v := 0) dX11_hold_30 (by decide) ?_
        refine y_iaload dX11_hold_31 (fxk_128 hx) (vi (j := 0) rfl (by omega) (by decide)) (rI (j := 0) rfl ((congrFun f128 _).trans e0)) ?_
        refine x_icmp_ge (tgt := 107) dX11_hold_32 rfl (fun c32 => ?_) (fun c32 => ?_)
        · have hie : i = n0 := cge_t (by omega) hi c32
          refine x_iload_n dX11_hold_107 rfl ?_
          refine x_if_ne (tgt := 115) dX11_hold_108 rfl (fun c108 => ?_) (fun c108 => ?_)
          · refine x_iload_n dX11_hold_115 rfl ?_
            refine x_ireturn dX11_hold_116 rfl nb_int ?_
            subst hie
            first | exact ⟨I2, by unfold a_hold; rw [if_pos (b_t c6), if_pos c108, cN_of e0 (by omega), ← hp], rfl, hF, hDI⟩ | exact ⟨I2, by unfold a_hold; rw [if_pos (b_t c6), if_neg c108, cN_of e0 (by omega), ← hp], rfl, hF, hDI⟩
          · refine x_iload_n dX11_hold_111 rfl ?_
            refine x_goto (tgt := 116) dX11_hold_112 rfl ?_
            refine x_ireturn dX11_hold_116 rfl nb_int ?_
            subst hie
            first | exact ⟨I2, by unfold a_hold; rw [if_pos (b_t c6), if_pos c108, cN_of e0 (by omega), ← hp], rfl, hF, hDI⟩ | exact ⟨I2, by unfold a_hold; rw [if_pos (b_t c6), if_neg c108, cN_of e0 (by omega), ← hp], rfl, hF, hDI⟩
        · have him : i < n0 := cge_f (by omega) hi c32
          refine x_iload dX11_hold_35 rfl ?_
          refine x_iconst (v := 1) dX11_hold_37 (by decide) ?_
          refine x_iadd dX11_hold_38 ?_
          rw [nI_1]
          refine x_istore dX11_hold_39 (Nat.le_of_ble_eq_true rfl) ?_
          try simp only [xst, xst2, xclr, xset, xwide]
          have K41 : ∀ (fuel : Nat) (j k : Nat) (I4 : Nat → Nat → Int32) (x4 y4 : Int32) (hj : j = i + 1 + k) (hjn : j ≤ n0) (hk : k = 0 ∨ 0 < ctN (I 128)) (hF4 : xFrm [127, 130, 131, 133, 134, 135] I I4) (hB4 : xBB I4) (hl4 : I4 127 14 = nI (ctN (I 128))) (hDI4 : xFd [14, 16, 17, 18, 19] I I4) (hp4 : (x4, y4) = hdJ (I 128) i (x, y) k), n0 - j < fuel → xX g Y_M_hold 6 0 0 (fun r σ => ∃ I1 : Nat → Nat → Int32, r = some (.int (a_hold (I 128) w)) ∧ σ = (nx, sh, P, I1) ∧ xFrm [127, 130, 131, 133, 134, 135] I I1 ∧ xFd [14, 16, 17, 18, 19] I I1) 41 [some (.ref 127), some (.int w), some (.int x4), some (.int y4), some (.int (nI i)), some (.int (nI j))] [] (nx, sh, P, I4) := by
            intro fuel
            induction fuel with
            | zero => intro j k I4 x4 y4 hj hjn hk hF4 hB4 hl4 hDI4 hp4 hm; exact absurd hm (Nat.not_lt_zero _)
            | succ fuel ih41 =>
              intro j k I4 x4 y4 hj hjn hk hF4 hB4 hl4 hDI4 hp4 hm
              refine x_iload dX11_hold_41 rfl ?_
              have h4 : I4 128 = I 128 := hF4 128 (by decide)
              refine x_aload_n dX11_hold_43 rfl ?_
              refine y_getr dX11_hold_44 F_M_9 (fxo_127 hx) rfl (fxp_127_1 hx) ?_
              refine x_iconst (v := 0) dX11_hold_47 (by decide) ?_
              refine y_iaload dX11_hold_48 (fxk_128 hx) (vi (j := 0) rfl (by omega) (by decide)) (rI (j := 0) rfl ((congrFun h4 _).trans e0)) ?_
              refine x_icmp_ge (tgt := 101) dX11_hold_49 rfl (fun c49 => ?_) (fun c49 => ?_)
              · have hje : j = n0 := cge_t (by omega) hjn c49
                have hq4 : (x4, y4) = hdI (I 128) (i + 1) := by
                  show _ = hdJ (I 128) i (hdI (I 128) i) (if 0 < ctN (I 128) then cN (I 128) 0 - (i + 1) else 0)
                  rw [← hp, hp4, cN_of e0 (by omega)]
                  rcases hk with hk | hk
                  · subst hk
                    by_cases h : 0 < ctN (I 128)
                    · rw [if_pos h, show n0 - (i + 1) = 0 by omega]
                    · rw [if_neg h]
                  · rw [if_pos hk, show n0 - (i + 1) = k by omega]
                refine x_iinc (v := (nI (i + 1))) dX11_hold_101 rfl (nI_1 _) (Nat.le_of_ble_eq_true rfl) ?_
                try simp only [xst, xst2, xclr, xset, xwide]
                refine x_goto (tgt := 24) dX11_hold_104 rfl ?_
                exact ih24 (i + 1) _ _ _ _ (by omega) hF4 hB4 hl4 hDI4 hq4 (by omega)
              · have hjm : j < n0 := cge_f (by omega) hjn c49
                refine x_aload_n dX11_hold_52 rfl ?_
                refine y_geti dX11_hold_53 F_M_184 (fxo_127 hx) rfl hl4 ?_
                refine x_if_le (tgt := 101) dX11_hold_56 rfl (fun c56 => ?_) (fun c56 => ?_)
                · have hz : ctN (I 128) = 0 := (nI_le0 (n := ctN (I 128)) (by omega)).mp c56
                  have hq4 : (x4, y4) = hdI (I 128) (i + 1) := by
                    show _ = hdJ (I 128) i (hdI (I 128) i) (if 0 < ctN (I 128) then cN (I 128) 0 - (i + 1) else 0)
                    rw [← hp, hp4, if_neg (by omega), show k = 0 by omega]
                  refine x_iinc (v := (nI (i + 1))) dX11_hold_101 rfl (nI_1 _) (Nat.le_of_ble_eq_true rfl) ?_
                  try simp only [xst, xst2, xclr, xset, xwide]
                  refine x_goto (tgt := 24) dX11_hold_104 rfl ?_
                  exact ih24 (i + 1) _ _ _ _ (by omega) hF4 hB4 hl4 hDI4 hq4 (by omega)
                · have hpos : 0 < ctN (I 128) := by
                    rcases Nat.eq_zero_or_pos (ctN (I 128)) with z | z
                    · exact absurd ((nI_le0 (n := ctN (I 128)) (by omega)).mpr z) c56
                    · exact z
                  refine x_aload_n dX11_hold_59 rfl ?_
                  refine x_iload dX11_hold_60 rfl ?_
                  refine x_iload dX11_hold_62 rfl ?_
                  refine x_callV (k2 := 0) (n2 := 0) dX11_hold_64 LV_M_226 (r_weighs (I := I4) (a := i) (b := j) hx (by rw [h4]; exact hR) hB4 (by rw [h4, cN_of e0 (by omega)]; omega) (by rw [h4, cN_of e0 (by omega)]; omega)) rfl rfl (fxo_127 hx) rfl (Nat.le_of_ble_eq_true rfl) (Nat.le_of_ble_eq_true rfl) (Nat.le_of_ble_eq_true rfl) (Nat.le_of_ble_eq_true rfl) ?_
                  rintro _ _ ⟨I6, rfl, rfl, hG, hD, hB6, hm6, hle6, hal6⟩
                  rw [h4] at hm6 hle6 hal6
                  have hF6 : xFrm [127, 130, 131, 133, 134, 135] I I6 := hF4.tr hG
                  have hl6 : I6 127 14 = nI (ctN (I 128)) := (hD 14 (by decide)).trans hl4
                  refine x_iload_n dX11_hold_67 rfl ?_
                  refine x_bipush (v := (-5)) dX11_hold_68 (by decide) ?_
                  refine x_icmp_eq (tgt := 81) dX11_hold_70 rfl (fun c70 => ?_) (fun c70 => ?_)
                  · refine x_bipush (v := 10) dX11_hold_81 (by decide) ?_
                    refine x_iload dX11_hold_83 rfl ?_
                    refine x_imul dX11_hold_85 ?_
                    refine x_iload dX11_hold_86 rfl ?_
                    refine x_iadd dX11_hold_88 ?_
                    rw [show (10 : Int32) * nI i + nI j = nI (10 * i + j) from nadd (nmul rfl rfl) rfl]
                    refine x_istore_n dX11_hold_89 (Nat.le_of_ble_eq_true rfl) ?_
                    try simp only [xst, xst2, xclr, xset, xwide]
                    refine x_aload_n dX11_hold_90 rfl ?_
                    refine x_callV (k2 := 0) (n2 := 0) dX11_hold_91 LV_M_230 (r_worst hx (moS_bd hR) (leS_bd hR) (alS_bd hR) hm6 hle6 hal6) rfl rfl (fxo_127 hx) rfl (Nat.le_of_ble_eq_true rfl) (Nat.le_of_ble_eq_true rfl) (Nat.le_of_ble_eq_true rfl) (Nat.le_of_ble_eq_true rfl) ?_
                    rintro _ _ ⟨rfl, rfl⟩
                    refine x_istore_n dX11_hold_94 (Nat.le_of_ble_eq_true rfl) ?_
                    try simp only [xst, xst2, xclr, xset, xwide]
                    rw [show nI (max (max (moS (I 128) i j (gN (I 128))) (leS (I 128) i j (gN (I 128)))) (alS (I 128) i j (gN (I 128)))) = nI (wstS (I 128) i j) from rfl]
                    refine x_iinc (v := (nI (j + 1))) dX11_hold_95 rfl (nI_1 _) (Nat.le_of_ble_eq_true rfl) ?_
                    try simp only [xst, xst2, xclr, xset, xwide]
                    refine x_goto (tgt := 41) dX11_hold_98 rfl ?_
                    exact ih41 (j + 1) (k + 1) _ _ _ (by omega) (by omega) (Or.inr hpos) hF6 hB6 hl6 (xFd.tr (l := [14, 16, 17, 18, 19]) (l1 := [14, 16, 17, 18, 19]) hDI4 hD) (by show _ = hdT (I 128) i (i + 1 + k) (hdJ (I 128) i (x, y) k); rw [← hp4, ← hj]; unfold hdT; first | (rw [if_pos (Or.inl c70)]) | (rw [if_pos (show (x4, y4).1 = -5 ∨ nI (wstS (I 128) i j) < (x4, y4).2 from Or.inr (Int32.not_le.mp c78))]) | (rw [if_neg (fun h => h.elim c70 (fun h => absurd c78 (Int32.not_le.mpr h)))])) (by omega)
                  · refine x_aload_n dX11_hold_73 rfl ?_
                    refine x_callV (k2 := 0) (n2 := 0) dX11_hold_74 LV_M_230 (r_worst hx (moS_bd hR) (leS_bd hR) (alS_bd hR) hm6 hle6 hal6) rfl rfl (fxo_127 hx) rfl (Nat.le_of_ble_eq_true rfl) (Nat.le_of_ble_eq_true rfl) (Nat.le_of_ble_eq_true rfl) (Nat.le_of_ble_eq_true rfl) ?_
                    rintro _ _ ⟨rfl, rfl⟩
                    refine x_iload_n dX11_hold_77 rfl ?_
                    refine x_icmp_ge (tgt := 95) dX11_hold_78 rfl (fun c78 => ?_) (fun c78 => ?_)
                    · refine x_iinc (v := (nI (j + 1))) dX11_hold_95 rfl (nI_1 _) (Nat.le_of_ble_eq_true rfl) ?_
                      try simp only [xst, xst2, xclr, xset, xwide]
                      refine x_goto (tgt := 41) dX11_hold_98 rfl ?_
                      exact ih41 (j + 1) (k + 1) _ _ _ (by omega) (by omega) (Or.inr hpos) hF6 hB6 hl6 (xFd.tr (l := [14, 16, 17, 18, 19]) (l1 := [14, 16, 17, 18, 19]) hDI4 hD) (by show _ = hdT (I 128) i (i + 1 + k) (hdJ (I 128) i (x, y) k); rw [← hp4, ← hj]; unfold hdT; first | (rw [if_pos (Or.inl c70)]) | (rw [if_pos (show (x4, y4).1 = -5 ∨ nI (wstS (I 128) i j) < (x4, y4).2 from Or.inr (Int32.not_le.mp c78))]) | (rw [if_neg (fun h => h.elim c70 (fun h => absurd c78 (Int32.not_le.mpr h)))])) (by omega)
                    · refine x_bipush (v := 10) dX11_hold_81 (by decide) ?_
                      refine x_iload dX11_hold_83 rfl ?_
                      refine x_imul dX11_hold_85 ?_
                      refine x_iload dX11_hold_86 rfl ?_
                      refine x_iadd dX11_hold_88 ?_
                      rw [show (10 : Int32) * nI i + nI j = nI (10 * i + j) from nadd (nmul rfl rfl) rfl]
                      refine x_istore_n dX11_hold_89 (Nat.le_of_ble_eq_true rfl) ?_
                      try simp only [xst, xst2, xclr, xset, xwide]
                      refine x_aload_n dX11_hold_90 rfl ?_
                      refine x_callV (k2 := 0) (n2 := 0) dX11_hold_91 LV_M_230 (r_worst hx (moS_bd hR) (leS_bd hR) (alS_bd hR) hm6 hle6 hal6) rfl rfl (fxo_127 hx) rfl (Nat.le_of_ble_eq_true rfl) (Nat.le_of_ble_eq_true rfl) (Nat.le_of_ble_eq_true rfl) (Nat.le_of_ble_eq_true rfl) ?_
                      rintro _ _ ⟨rfl, rfl⟩
                      refine x_istore_n dX11_hold_94 (Nat.le_of_ble_eq_true rfl) ?_
                      try simp only [xst, xst2, xclr, xset, xwide]
                      rw [show nI (max (max (moS (I 128) i j (gN (I 128))) (leS (I 128) i j (gN (I 128)))) (alS (I 128) i j (gN (I 128)))) = nI (wstS (I 128) i j) from rfl]
                      refine x_iinc (v := (nI (j + 1))) dX11_hold_95 rfl (nI_1 _) (Nat.le_of_ble_eq_true rfl) ?_
                      try simp only [xst, xst2, xclr, xset, xwide]
                      refine x_goto (tgt := 41) dX11_hold_98 rfl ?_
                      exact ih41 (j + 1) (k + 1) _ _ _ (by omega) (by omega) (Or.inr hpos) hF6 hB6 hl6 (xFd.tr (l := [14, 16, 17, 18, 19]) (l1 := [14, 16, 17, 18, 19]) hDI4 hD) (by show _ = hdT (I 128) i (i + 1 + k) (hdJ (I 128) i (x, y) k); rw [← hp4, ← hj]; unfold hdT; first | (rw [if_pos (Or.inl c70)]) | (rw [if_pos (show (x4, y4).1 = -5 ∨ nI (wstS (I 128) i j) < (x4, y4).2 from Or.inr (Int32.not_le.mp c78))]) | (rw [if_neg (fun h => h.elim c70 (fun h => absurd c78 (Int32.not_le.mpr h)))])) (by omega)
          exact K41 _ (i + 1) 0 I2 _ _ rfl (by omega) (Or.inl rfl) hF hB hl hDI rfl (Nat.lt_succ_self _)
    exact K24 _ 0 none I1 _ _ (Nat.zero_le _) hF hB hl (xFd.tr (l1 := [14, 16]) (l2 := [14, 16]) hD xFd.rf) rfl (Nat.lt_succ_self _)
  · refine x_iconst (v := (-1)) dX11_hold_9 (by decide) ?_
    refine x_ireturn dX11_hold_10 rfl nb_int ?_
    exact ⟨I, by unfold a_hold; rw [if_neg (b_f c6)], rfl, xFrm.rf, xFd.rf⟩
