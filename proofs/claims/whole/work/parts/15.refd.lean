/-! the reference: fractions, odds, lasting, looked, acts -/
theorem lcmp0 {x : Int64} : lg_cmp x 0 = 0 ↔ x = 0 := by
  unfold lg_cmp
  by_cases h1 : x > 0
  · rw [if_pos h1]
    constructor
    · intro h; exact absurd h (by decide)
    · intro h; rw [h] at h1; exact absurd h1 (by decide)
  · rw [if_neg h1]
    by_cases h2 : x = 0
    · rw [if_pos h2]; exact ⟨fun _ => h2, fun _ => rfl⟩
    · rw [if_neg h2]; exact ⟨fun h => absurd h (by decide), fun h => absurd h h2⟩
/-- a part of a fraction in lowest terms -/
def frL (u l : Nat) (part : Int32) : Int64 := lN ((if part = 0 then u else l) / Nat.gcd u l)

set_option maxHeartbeats 4000000 in
set_option maxRecDepth 100000 in
theorem r_lowest {g : xG} {nx : Nat} {sh : Nat → Nat × Nat} {P : Nat → Nat → Option Nat} {I : Nat → Nat → Int32} {u l : Nat} {part : Int32} (hu : u < 2 ^ 31) (hl : l < 2 ^ 31) (hl0 : 0 < l) : xMet g Y_M_lowest 0 0 0 [.long (lN u), .long (lN l), .int part] (nx, sh, P, I) (fun r σ => r = some (.long (frL u l part)) ∧ σ = (nx, sh, P, I)) := by
  refine xMet.of [some (.long (lN u)), none, some (.long (lN l)), none, some (.int part), none, none, none, none, none, none] (by decide +kernel) (Nat.le_of_ble_eq_true rfl) rfl ?_
  refine x_lload_n dX11_lowest_0 rfl ?_
  refine x_lstore dX11_lowest_1 (Nat.le_of_ble_eq_true rfl) ?_
  try simp only [xst, xst2, xclr, xset, xwide]
  refine x_lload_n dX11_lowest_3 rfl ?_
  refine x_lstore dX11_lowest_4 (Nat.le_of_ble_eq_true rfl) ?_
  try simp only [xst, xst2, xclr, xset, xwide]
  have K6 : ∀ (fuel : Nat) (a b : Nat) (v9 v10 : Option Value) (ha : a < 2 ^ 31) (hb : b < 2 ^ 31) (hg : Nat.gcd a b = Nat.gcd u l), b < fuel → xX g Y_M_lowest 0 0 0 (fun r σ => r = some (.long (frL u l part)) ∧ σ = (nx, sh, P, I)) 6 [some (.long (lN u)), none, some (.long (lN l)), none, some (.int part), some (.long (lN a)), none, some (.long (lN b)), none, v9, v10] [] (nx, sh, P, I) := by
    intro fuel
    induction fuel with
    | zero => intro a b v9 v10 ha hb hg hm; exact absurd hm (Nat.not_lt_zero _)
    | succ fuel ih6 =>
      intro a b v9 v10 ha hb hg hm
      refine x_lload dX11_lowest_6 rfl ?_
      refine x_lconst (v := 0) dX11_lowest_8 (by decide) ?_
      refine x_lcmp dX11_lowest_9 ?_
      refine x_if_eq (tgt := 31) dX11_lowest_10 rfl (fun c10 => ?_) (fun c10 => ?_)
      · have hb0 : b = 0 := (pk_lEQ (b := 0) (by omega) (by decide)).mp (lcmp0.mp c10)
        subst hb0
        rw [Nat.gcd_zero_right] at hg
        refine x_iload dX11_lowest_31 rfl ?_
        refine x_if_ne (tgt := 40) dX11_lowest_33 rfl (fun c33 => ?_) (fun c33 => ?_)
        · refine x_lload_n dX11_lowest_40 rfl ?_
          refine x_lload dX11_lowest_41 rfl ?_
          refine x_ldiv dX11_lowest_43 (fun z => by have h9 := (pk_lEQ (b := 0) (by omega) (by decide)).mp z; have h8 := Nat.gcd_pos_of_pos_right u hl0; omega) ?_
          refine x_lreturn dX11_lowest_44 rfl ?_
          subst hg
          have h8 := Nat.gcd_pos_of_pos_right u hl0
          first | exact ⟨by unfold frL; rw [if_pos c33, pk_lDiv (by omega) h8 (by omega)], rfl⟩ | exact ⟨by unfold frL; rw [if_neg c33, pk_lDiv (by omega) h8 (by omega)], rfl⟩
        · refine x_lload_n dX11_lowest_36 rfl ?_
          refine x_goto (tgt := 41) dX11_lowest_37 rfl ?_
          refine x_lload dX11_lowest_41 rfl ?_
          refine x_ldiv dX11_lowest_43 (fun z => by have h9 := (pk_lEQ (b := 0) (by omega) (by decide)).mp z; have h8 := Nat.gcd_pos_of_pos_right u hl0; omega) ?_
          refine x_lreturn dX11_lowest_44 rfl ?_
          subst hg
          have h8 := Nat.gcd_pos_of_pos_right u hl0
          first | exact ⟨by unfold frL; rw [if_pos c33, pk_lDiv (by omega) h8 (by omega)], rfl⟩ | exact ⟨by unfold frL; rw [if_neg c33, pk_lDiv (by omega) h8 (by omega)], rfl⟩
      · have hb0 : 0 < b := by
          rcases Nat.eq_zero_or_pos b with z | z
          · subst z; exact absurd (lcmp0.mpr rfl) c10
          · exact z
        refine x_lload dX11_lowest_13 rfl ?_
        refine x_lload dX11_lowest_15 rfl ?_
        refine x_lrem dX11_lowest_17 (fun z => by have := (pk_lEQ (b := 0) (by omega) (by decide)).mp z; omega) ?_
        rw [pk_lRem (by omega) hb0 (by omega)]
        refine x_lstore dX11_lowest_18 (Nat.le_of_ble_eq_true rfl) ?_
        try simp only [xst, xst2, xclr, xset, xwide]
        refine x_lload dX11_lowest_20 rfl ?_
        refine x_lstore dX11_lowest_22 (Nat.le_of_ble_eq_true rfl) ?_
        try simp only [xst, xst2, xclr, xset, xwide]
        refine x_lload dX11_lowest_24 rfl ?_
        refine x_lstore dX11_lowest_26 (Nat.le_of_ble_eq_true rfl) ?_
        try simp only [xst, xst2, xclr, xset, xwide]
        refine x_goto (tgt := 6) dX11_lowest_28 rfl ?_
        exact ih6 b (a % b) _ _ hb (Nat.lt_trans (Nat.mod_lt _ hb0) hb) (by rw [← hg, Nat.gcd_comm a b, Nat.gcd_rec b a, Nat.gcd_comm]) (by have := Nat.mod_lt a hb0; omega)
  exact K6 _ u l none none hu hl rfl (Nat.lt_succ_self _)

/-- a fraction of two ints -/
def frI (x y part : Int32) : Int64 := frL x.toNatClampNeg y.toNatClampNeg part
theorem on1_pos {v : Int32} {m : Int} (h : v.toInt ≤ m) (hm : 1 ≤ m) : 1 ≤ (on1 v).toInt ∧ (on1 v).toInt ≤ m := by
  unfold on1
  by_cases h1 : v < 1
  · rw [if_pos h1]; exact ⟨by decide, by show (1 : Int) ≤ m; exact hm⟩
  · rw [if_neg h1]
    have := Int32.le_iff_toInt_le.mp (Int32.not_lt.mp h1)
    exact ⟨this, h⟩
theorem LK_bd {s f : Nat → Int32} (h : RI s) : -1000 ≤ (LK s f).toInt ∧ (LK s f).toInt ≤ 1000 := by
  rcases h.hold with z | ⟨a, h1, h2⟩
  · unfold LK; rw [if_pos z]; decide
  · obtain ⟨-, -, mm, h5, h6, -, h8⟩ := h.2.2.2.2.1.1 a h1
    have hb := h.2.1.2.2.1
    have hn : ¬ s 8 = -1 := by rw [h2]; intro z; have := nI_pos (n := a) (by omega); rw [z] at this; exact this (by decide)
    unfold LK
    rw [if_neg hn, h2, nI_clamp (by omega), h6, nI_clamp (by omega)]
    exact h8 f
theorem i_add {x y : Int32} {a b : Int} (h1 : x.toInt = a) (h2 : y.toInt = b) (h3 : -2147483648 ≤ a + b) (h4 : a + b < 2147483648) : (x + y).toInt = a + b := by
  rw [Int32.toInt_add, h1, h2]
  show (a + b).bmod 4294967296 = a + b
  rw [Int.bmod_def]
  omega
theorem i_sub {x y : Int32} {a b : Int} (h1 : x.toInt = a) (h2 : y.toInt = b) (h3 : -2147483648 ≤ a - b) (h4 : a - b < 2147483648) : (x - y).toInt = a - b := by
  rw [Int32.toInt_sub, h1, h2]
  show (a - b).bmod 4294967296 = a - b
  rw [Int.bmod_def]
  omega
theorem i_ofb {x : Int32} {m : Nat} (h1 : 0 ≤ x.toInt) (h2 : x.toInt ≤ m) : ∃ j : Nat, j ≤ m ∧ x = nI j := by
  have h0 : ¬ x < 0 := by rw [Int32.not_lt]; exact Int32.le_iff_toInt_le.mpr (by simpa using h1)
  refine ⟨x.toNatClampNeg, ?_, i_nn h0⟩
  have : x.toNatClampNeg = x.toInt.toNat := rfl
  omega
/-- a worth is 1 at least, and not great -/
theorem wo_bd {s : Nat → Int32} (h : RI s) {c : Nat} (hc : c < cN s 0) {base purse day : Int32} {b dy : Nat} (hb : base = nI b) (hb9 : b ≤ 9) (hd : day = nI dy) (hdy : dy ≤ 20000) : ∃ w, 1 ≤ w ∧ w ≤ 2000 ∧ wo s c base purse day = nI w := by
  obtain ⟨⟨k, hk6, hk⟩, ⟨v, hv9, hv⟩, -, -, hrow⟩ := h.2.2.2.1 c hc
  have hL := LK_bd (f := xFa s c base purse day) h
  have hbI : base.toInt = (b : Int) := by rw [hb, nI_toInt (by omega)]
  have h1 := i_add hbI rfl (b := (LK s (xFa s c base purse day)).toInt) (by omega) (by omega)
  have hp := on1_pos (v := base + LK s (xFa s c base purse day)) (m := 1009) (by omega) (by omega)
  generalize hpl : on1 (base + LK s (xFa s c base purse day)) = pl at hp
  have hvd : s (14 + c) / 3 = nI (v / 3) := by rw [hv]; exact pk_div (d := 3) (by omega) (by decide) (by decide)
  have hvI : (s (14 + c) / 3).toInt = ((v / 3 : Nat) : Int) := by rw [hvd, nI_toInt (by omega)]
  have hdd : day / 10 = nI (dy / 10) := by rw [hd]; exact pk_div (d := 10) (by omega) (by decide) (by decide)
  have hdI : (day / 10).toInt = ((dy / 10 : Nat) : Int) := by rw [hdd, nI_toInt (by omega)]
  have hrm : day - day / 4 * 4 = nI (dy % 4) := by rw [hd]; exact pk_rem (d := 4) (by omega) (by decide) (by decide)
  obtain ⟨r, hr9, hr⟩ := hrow (dy % 4) (Nat.mod_lt _ (by decide))
  have e3 : (pl + s (14 + c) / 3).toInt = pl.toInt + ((v / 3 : Nat) : Int) := i_add rfl hvI (by omega) (by omega)
  have e4 : (pl - 1).toInt = pl.toInt - 1 := i_sub rfl rfl (by omega) (by omega)
  have e5 : (pl - day / 10).toInt = pl.toInt - ((dy / 10 : Nat) : Int) := i_sub rfl hdI (by omega) (by omega)
  have e6 : (pl + s (14 + c) / 3 - 2).toInt = pl.toInt + ((v / 3 : Nat) : Int) - 2 := i_sub e3 rfl (by omega) (by omega)
  have q4 := on1_pos (v := pl - 1) (m := 2000) (by omega) (by omega)
  have q5 := on1_pos (v := pl - day / 10) (m := 1900) (by omega) (by omega)
  have q6 := on1_pos (v := pl + s (14 + c) / 3 - 2) (m := 2000) (by omega) (by omega)
  have hrI : (s (26 + 4 * c + dy % 4)).toInt = (r : Int) := by rw [hr, nI_toInt (by omega)]
  have e7 : (on1 (pl - day / 10) + s (26 + 4 * c + dy % 4)).toInt = (on1 (pl - day / 10)).toInt + (r : Int) := i_add rfl hrI (by omega) (by omega)
  have key : 1 ≤ (wo s c base purse day).toInt ∧ (wo s c base purse day).toInt ≤ 2000 := by
    unfold wo
    simp only [hpl, hrm, nI_clamp (show dy % 4 < 2 ^ 31 by omega)]
    by_cases k1 : s (10 + c) = 1
    · rw [if_pos k1, e3]; omega
    · rw [if_neg k1]
      by_cases k2 : s (10 + c) = 2
      · rw [if_pos k2]; exact q4
      · rw [if_neg k2]
        by_cases k3 : s (10 + c) = 3
        · rw [if_pos k3]; omega
        · rw [if_neg k3]
          by_cases k4 : s (10 + c) = 4
          · rw [if_pos k4]; exact q6
          · rw [if_neg k4]
            by_cases k5 : s (10 + c) = 5
            · rw [if_pos k5]
              by_cases k5' : (5 : Int32) ≤ day
              · rw [if_pos k5']; decide
              · rw [if_neg k5']; exact q4
            · rw [if_neg k5]
              by_cases k6 : s (10 + c) = 6
              · rw [if_pos k6, e7]; omega
              · rw [if_neg k6]; omega
  obtain ⟨w, hw, e⟩ := i_ofb (m := 2000) (by omega) (by omega) (x := wo s c base purse day)
  refine ⟨w, ?_, hw, e⟩
  rw [e, nI_toInt (by omega)] at key
  omega
theorem wc_bd {s : Nat → Int32} (h : RI s) {c : Nat} (hc : c < cN s 0) : ∃ w, 1 ≤ w ∧ w ≤ 2000 ∧ wc s c = nI w := by
  obtain ⟨-, -, ⟨b, -, hb9, hb⟩, -, -⟩ := h.2.2.2.1 c hc
  obtain ⟨d, hd, e⟩ := h.dy
  exact wo_bd h hc hb hb9 e hd
theorem pu_of {s : Nat → Int32} (h : RI s) {c : Nat} (hc : c < cN s 0) : ∃ p, p ≤ 9 ∧ s (22 + c) = nI p := (h.2.2.2.1 c hc).2.2.2.1
theorem puS_bd {s : Nat → Int32} (h : RI s) : ∀ n, n ≤ cN s 0 → ∃ p, p ≤ 9 * n ∧ puS s n = nI p
  | 0, _ => ⟨0, by omega, rfl⟩
  | n + 1, hn => by
    obtain ⟨p, h1, h2⟩ := puS_bd h n (by omega)
    obtain ⟨q, h3, h4⟩ := pu_of h (c := n) (by omega)
    exact ⟨p + q, by omega, by show puS s n + s (22 + n) = _; rw [h2, h4, nI_add]⟩
theorem rcS_bd {s : Nat → Int32} (h : RI s) : ∀ n, n ≤ cN s 0 → ∃ p, p ≤ 18000 * n ∧ rcS s n = nI p
  | 0, _ => ⟨0, by omega, rfl⟩
  | n + 1, hn => by
    obtain ⟨p, h1, h2⟩ := rcS_bd h n (by omega)
    obtain ⟨q, h3, h4⟩ := pu_of h (c := n) (by omega)
    obtain ⟨w, -, h5, h6⟩ := wc_bd h (c := n) (by omega)
    have : q * w ≤ 9 * 2000 := Nat.mul_le_mul h3 h5
    exact ⟨p + q * w, by omega, by show rcS s n + s (22 + n) * wc s n = _; rw [h2, h4, h6, pk_mul, nI_add]⟩
/-- how many of the first n sorts' coins are worth q or more -/
def opS (s : Nat → Int32) (q : Int32) : Nat → Int32
  | 0 => 0
  | n + 1 => opS s q n + if q ≤ wc s n then s (22 + n) else 0
theorem opS_bd {s : Nat → Int32} {q : Int32} (h : RI s) : ∀ n, n ≤ cN s 0 → ∃ p, p ≤ 9 * n ∧ opS s q n = nI p
  | 0, _ => ⟨0, by omega, rfl⟩
  | n + 1, hn => by
    obtain ⟨p, h1, h2⟩ := opS_bd h n (by omega)
    obtain ⟨x, h3, h4⟩ := pu_of h (c := n) (by omega)
    by_cases hq : q ≤ wc s n
    · exact ⟨p + x, by omega, by show opS s q n + (if q ≤ wc s n then s (22 + n) else 0) = _; rw [if_pos hq, h2, h4, nI_add]⟩
    · exact ⟨p, by omega, by show opS s q n + (if q ≤ wc s n then s (22 + n) else 0) = _; rw [if_neg hq, h2]; exact Int32.add_zero _⟩
def a_rate (s : Nat → Int32) (a b part : Int32) : Int64 := if (0 ≤ a ∧ a < s 0) ∧ (0 ≤ b ∧ b < s 0) ∧ 0 ≤ part ∧ part ≤ 1 then frI (wc s a.toNatClampNeg) (wc s b.toNatClampNeg) part else -9223372036854775808
def a_odds (s : Nat → Int32) (q part : Int32) : Int64 := if (1 ≤ q ∧ q ≤ 30) ∧ (0 ≤ part ∧ part ≤ 1) ∧ ¬ puS s (cN s 0) = 0 then frI (opS s q (cN s 0)) (puS s (cN s 0)) part else -9223372036854775808
def a_mean (s : Nat → Int32) (part : Int32) : Int64 := if (0 ≤ part ∧ part ≤ 1) ∧ ¬ puS s (cN s 0) = 0 then frI (rcS s (cN s 0)) (puS s (cN s 0)) part else -9223372036854775808
theorem frI_n {x y : Nat} {part : Int32} (hx : x < 2 ^ 31) (hy : y < 2 ^ 31) : frI (nI x) (nI y) part = frL x y part := by unfold frI; rw [nI_clamp hx, nI_clamp hy]

set_option maxHeartbeats 4000000 in
set_option maxRecDepth 100000 in
theorem r_rate {g : xG} {nx : Nat} {sh : Nat → Nat × Nat} {P : Nat → Nat → Option Nat} {I : Nat → Nat → Int32} (hx : xFx sh P) {a b part : Int32} (hR : RI (I 128)) : xMet g Y_M_rate 3 0 0 [.ref 127, .int a, .int b, .int part] (nx, sh, P, I) (fun r σ => ∃ I1 : Nat → Nat → Int32, r = some (.long (a_rate (I 128) a b part)) ∧ σ = (nx, sh, P, I1) ∧ xFrm [130, 131] I I1) := by
  refine xMet.of [some (.ref 127), some (.int a), some (.int b), some (.int part)] (by decide +kernel) (Nat.le_of_ble_eq_true rfl) rfl ?_
  obtain ⟨⟨n0, b0, e0⟩, ⟨n1, b1, e1⟩, ⟨n2, b2, e2⟩, ⟨n3, b3, e3⟩, ⟨n4, b4, e4⟩, ⟨n5, b5, e5⟩, ⟨n6, b6, e6⟩, ⟨n7, b7, e7⟩, ⟨n9, b9, e9⟩⟩ := hR.k
  refine x_aload_n dX11_rate_0 rfl ?_
  refine x_iload_n dX11_rate_1 rfl ?_
  refine x_callV (k2 := 0) (n2 := 0) dX11_rate_2 LV_M_161 (r_isCoin hx hR.nn0) rfl rfl (fxo_127 hx) rfl (Nat.le_of_ble_eq_true rfl) (Nat.le_of_ble_eq_true rfl) (Nat.le_of_ble_eq_true rfl) (Nat.le_of_ble_eq_true rfl) ?_
  rintro _ _ ⟨rfl, rfl⟩
  refine x_if_eq (tgt := 25) dX11_rate_5 rfl (fun c5 => ?_) (fun c5 => ?_)
  · refine x_ldc2 dX11_rate_25 K_M_211 ?_
    refine x_lreturn dX11_rate_28 rfl ?_
    exact ⟨I, by unfold a_rate; rw [if_neg (fun h => by grind)], rfl, xFrm.rf⟩
  · refine x_aload_n dX11_rate_8 rfl ?_
    refine x_iload_n dX11_rate_9 rfl ?_
    refine x_callV (k2 := 0) (n2 := 0) dX11_rate_10 LV_M_161 (r_isCoin hx hR.nn0) rfl rfl (fxo_127 hx) rfl (Nat.le_of_ble_eq_true rfl) (Nat.le_of_ble_eq_true rfl) (Nat.le_of_ble_eq_true rfl) (Nat.le_of_ble_eq_true rfl) ?_
    rintro _ _ ⟨rfl, rfl⟩
    refine x_if_eq (tgt := 25) dX11_rate_13 rfl (fun c13 => ?_) (fun c13 => ?_)
    · refine x_ldc2 dX11_rate_25 K_M_211 ?_
      refine x_lreturn dX11_rate_28 rfl ?_
      exact ⟨I, by unfold a_rate; rw [if_neg (fun h => by grind)], rfl, xFrm.rf⟩
    · refine x_iload_n dX11_rate_16 rfl ?_
      refine x_iconst (v := 0) dX11_rate_17 (by decide) ?_
      refine x_iconst (v := 1) dX11_rate_18 (by decide) ?_
      refine x_callS (k2 := 0) (n2 := 0) dX11_rate_19 LS_M_65 r_in rfl rfl (Nat.le_of_ble_eq_true rfl) (Nat.le_of_ble_eq_true rfl) (Nat.le_of_ble_eq_true rfl) (Nat.le_of_ble_eq_true rfl) ?_
      rintro _ _ ⟨rfl, rfl⟩
      refine x_if_ne (tgt := 29) dX11_rate_22 rfl (fun c22 => ?_) (fun c22 => ?_)
      · obtain ⟨q, hq, rfl⟩ := i_2 (n := n0) (by omega) (by rw [← e0]; exact b_t c5)
        obtain ⟨q2, hq2, rfl⟩ := i_2 (n := n0) (by omega) (by rw [← e0]; exact b_t c13)
        have hqc : q < cN (I 128) 0 := by rw [cN_of e0 (by omega)]; exact hq
        have hqc2 : q2 < cN (I 128) 0 := by rw [cN_of e0 (by omega)]; exact hq2
        obtain ⟨w1, hw1, hw1b, ew1⟩ := wc_bd hR hqc
        obtain ⟨w2, hw2, hw2b, ew2⟩ := wc_bd hR hqc2
        refine x_aload_n dX11_rate_29 rfl ?_
        refine x_iload_n dX11_rate_30 rfl ?_
        refine x_aload_n dX11_rate_31 rfl ?_
        refine y_getr dX11_rate_32 F_M_9 (fxo_127 hx) rfl (fxp_127_1 hx) ?_
        refine x_bipush (v := 18) dX11_rate_35 (by decide) ?_
        refine x_iload_n dX11_rate_37 rfl ?_
        refine x_iadd dX11_rate_38 ?_
        refine y_iaload dX11_rate_39 (fxk_128 hx) (vi (j := (18 + q)) (nadd (a := 18) (b := q) rfl rfl) (by omega) (by decide)) (rI (j := (18 + q)) (ci (nadd (a := 18) (b := q) rfl rfl) (by omega)) rfl) ?_
        refine x_callV (k2 := 0) (n2 := 0) dX11_rate_40 LV_M_158 (r_worthOf (c := q) hx (by omega) hR.lw hR.dy (hR.kd hqc)) rfl rfl (fxo_127 hx) rfl (Nat.le_of_ble_eq_true rfl) (Nat.le_of_ble_eq_true rfl) (Nat.le_of_ble_eq_true rfl) (Nat.le_of_ble_eq_true rfl) ?_
        rintro _ _ ⟨I1, rfl, rfl, hF⟩
        have e128 : I1 128 = I 128 := hF 128 (by decide)
        rw [show wo (I 128) q (I 128 (18 + q)) (I 128 (22 + q)) (I 128 9) = nI w1 from ew1]
        refine x_i2l dX11_rate_43 ?_
        rw [nI_l (by omega)]
        refine x_aload_n dX11_rate_44 rfl ?_
        refine x_iload_n dX11_rate_45 rfl ?_
        refine x_aload_n dX11_rate_46 rfl ?_
        refine y_getr dX11_rate_47 F_M_9 (fxo_127 hx) rfl (fxp_127_1 hx) ?_
        refine x_bipush (v := 18) dX11_rate_50 (by decide) ?_
        refine x_iload_n dX11_rate_52 rfl ?_
        refine x_iadd dX11_rate_53 ?_
        refine y_iaload dX11_rate_54 (fxk_128 hx) (vi (j := (18 + q2)) (nadd (a := 18) (b := q2) rfl rfl) (by omega) (by decide)) (rI (j := (18 + q2)) (ci (nadd (a := 18) (b := q2) rfl rfl) (by omega)) (congrFun e128 _)) ?_
        refine x_callV (k2 := 0) (n2 := 0) dX11_rate_55 LV_M_158 (r_worthOf (I := I1) (c := q2) hx (by omega) (by rw [e128]; exact hR.lw) (by rw [e128]; exact hR.dy) (by rw [e128]; exact hR.kd hqc2)) rfl rfl (fxo_127 hx) rfl (Nat.le_of_ble_eq_true rfl) (Nat.le_of_ble_eq_true rfl) (Nat.le_of_ble_eq_true rfl) (Nat.le_of_ble_eq_true rfl) ?_
        rintro _ _ ⟨I2, rfl, rfl, hF2⟩
        rw [show wo (I1 128) q2 (I 128 (18 + q2)) (I1 128 (22 + q2)) (I1 128 9) = nI w2 by rw [e128]; exact ew2]
        refine x_i2l dX11_rate_58 ?_
        rw [nI_l (by omega)]
        refine x_iload_n dX11_rate_59 rfl ?_
        refine x_callS (k2 := 0) (n2 := 0) dX11_rate_60 LS_M_213 (r_lowest (u := w1) (l := w2) (by omega) (by omega) (by omega)) rfl rfl (Nat.le_of_ble_eq_true rfl) (Nat.le_of_ble_eq_true rfl) (Nat.le_of_ble_eq_true rfl) (Nat.le_of_ble_eq_true rfl) ?_
        rintro _ _ ⟨rfl, rfl⟩
        refine x_lreturn dX11_rate_63 rfl ?_
        exact ⟨I2, by unfold a_rate; rw [if_pos ⟨b_t c5, b_t c13, b_t c22⟩, nI_clamp (by omega), nI_clamp (by omega), ew1, ew2, frI_n (by omega) (by omega)], rfl, hF.tr hF2⟩
      · refine x_ldc2 dX11_rate_25 K_M_211 ?_
        refine x_lreturn dX11_rate_28 rfl ?_
        exact ⟨I, by unfold a_rate; rw [if_neg (fun h => by grind)], rfl, xFrm.rf⟩

set_option maxHeartbeats 4000000 in
set_option maxRecDepth 100000 in
theorem r_odds {g : xG} {nx : Nat} {sh : Nat → Nat × Nat} {P : Nat → Nat → Option Nat} {I : Nat → Nat → Int32} (hx : xFx sh P) {q part : Int32} (hR : RI (I 128)) : xMet g Y_M_odds 4 0 0 [.ref 127, .int q, .int part] (nx, sh, P, I) (fun r σ => ∃ I1 : Nat → Nat → Int32, r = some (.long (a_odds (I 128) q part)) ∧ σ = (nx, sh, P, I1) ∧ xFrm [130, 131, 132] I I1) := by
  refine xMet.of [some (.ref 127), some (.int q), some (.int part), none, none, none] (by decide +kernel) (Nat.le_of_ble_eq_true rfl) rfl ?_
  obtain ⟨⟨n0, b0, e0⟩, ⟨n1, b1, e1⟩, ⟨n2, b2, e2⟩, ⟨n3, b3, e3⟩, ⟨n4, b4, e4⟩, ⟨n5, b5, e5⟩, ⟨n6, b6, e6⟩, ⟨n7, b7, e7⟩, ⟨n9, b9, e9⟩⟩ := hR.k
  obtain ⟨pu, hpu, epu⟩ := puS_bd hR (cN (I 128) 0) (Nat.le_refl _)
  rw [cN_of e0 (by omega)] at hpu
  refine x_iload_n dX11_odds_0 rfl ?_
  refine x_iconst (v := 1) dX11_odds_1 (by decide) ?_
  refine x_bipush (v := 30) dX11_odds_2 (by decide) ?_
  refine x_callS (k2 := 0) (n2 := 0) dX11_odds_4 LS_M_65 r_in rfl rfl (Nat.le_of_ble_eq_true rfl) (Nat.le_of_ble_eq_true rfl) (Nat.le_of_ble_eq_true rfl) (Nat.le_of_ble_eq_true rfl) ?_
  rintro _ _ ⟨rfl, rfl⟩
  refine x_if_eq (tgt := 26) dX11_odds_7 rfl (fun c7 => ?_) (fun c7 => ?_)
  · refine x_ldc2 dX11_odds_26 K_M_211 ?_
    refine x_lreturn dX11_odds_29 rfl ?_
    exact ⟨I, by unfold a_odds; rw [if_neg (fun h => by grind)], rfl, xFrm.rf⟩
  · refine x_iload_n dX11_odds_10 rfl ?_
    refine x_iconst (v := 0) dX11_odds_11 (by decide) ?_
    refine x_iconst (v := 1) dX11_odds_12 (by decide) ?_
    refine x_callS (k2 := 0) (n2 := 0) dX11_odds_13 LS_M_65 r_in rfl rfl (Nat.le_of_ble_eq_true rfl) (Nat.le_of_ble_eq_true rfl) (Nat.le_of_ble_eq_true rfl) (Nat.le_of_ble_eq_true rfl) ?_
    rintro _ _ ⟨rfl, rfl⟩
    refine x_if_eq (tgt := 26) dX11_odds_16 rfl (fun c16 => ?_) (fun c16 => ?_)
    · refine x_ldc2 dX11_odds_26 K_M_211 ?_
      refine x_lreturn dX11_odds_29 rfl ?_
      exact ⟨I, by unfold a_odds; rw [if_neg (fun h => by grind)], rfl, xFrm.rf⟩
    · refine x_aload_n dX11_odds_19 rfl ?_
      refine x_callV (k2 := 0) (n2 := 0) dX11_odds_20 LV_M_275 (r_purseMany hx hR) rfl rfl (fxo_127 hx) rfl (Nat.le_of_ble_eq_true rfl) (Nat.le_of_ble_eq_true rfl) (Nat.le_of_ble_eq_true rfl) (Nat.le_of_ble_eq_true rfl) ?_
      rintro _ _ ⟨rfl, rfl⟩
      refine x_if_ne (tgt := 30) dX11_odds_23 rfl (fun c23 => ?_) (fun c23 => ?_)
      · refine x_aload_n dX11_odds_30 rfl ?_
        refine x_callV (k2 := 0) (n2 := 0) dX11_odds_31 LV_M_165 (r_looksForWorths hx hR) rfl rfl (fxo_127 hx) rfl (Nat.le_of_ble_eq_true rfl) (Nat.le_of_ble_eq_true rfl) (Nat.le_of_ble_eq_true rfl) (Nat.le_of_ble_eq_true rfl) ?_
        rintro _ _ ⟨I1, rfl, rfl, hF, hW⟩
        have e128 : I1 128 = I 128 := hF 128 (by decide)
        refine x_lconst (v := 0) dX11_odds_34 (by decide) ?_
        refine x_lstore_n dX11_odds_35 (Nat.le_of_ble_eq_true rfl) ?_
        try simp only [xst, xst2, xclr, xset, xwide]
        refine x_iconst (v := 0) dX11_odds_36 (by decide) ?_
        refine x_istore dX11_odds_37 (Nat.le_of_ble_eq_true rfl) ?_
        try simp only [xst, xst2, xclr, xset, xwide]
        have K39 : ∀ (fuel : Nat) (i : Nat) (u : Nat) (hi : i ≤ n0) (hu : u ≤ 9 * i) (ha : opS (I 128) q i = nI u), n0 - i < fuel → xX g Y_M_odds 4 0 0 (fun r σ => ∃ I1 : Nat → Nat → Int32, r = some (.long (a_odds (I 128) q part)) ∧ σ = (nx, sh, P, I1) ∧ xFrm [130, 131, 132] I I1) 39 [some (.ref 127), some (.int q), some (.int part), some (.long (lN u)), none, some (.int (nI i))] [] (nx, sh, P, I1) := by
          intro fuel
          induction fuel with
          | zero => intro i u hi hu ha hm; exact absurd hm (Nat.not_lt_zero _)
          | succ fuel ih39 =>
            intro i u hi hu ha hm
            refine x_iload dX11_odds_39 rfl ?_
            refine x_aload_n dX11_odds_41 rfl ?_
            refine y_getr dX11_odds_42 F_M_9 (fxo_127 hx) rfl (fxp_127_1 hx) ?_
            refine x_iconst (v := 0) dX11_odds_45 (by decide) ?_
            refine y_iaload dX11_odds_46 (fxk_128 hx) (vi (j := 0) rfl (by omega) (by decide)) (rI (j := 0) rfl ((congrFun e128 _).trans e0)) ?_
            refine x_icmp_ge (tgt := 85) dX11_odds_47 rfl (fun c47 => ?_) (fun c47 => ?_)
            · have hie : i = n0 := cge_t (by omega) hi c47
              subst hie
              refine x_lload_n dX11_odds_85 rfl ?_
              refine x_aload_n dX11_odds_86 rfl ?_
              refine x_callV (k2 := 0) (n2 := 0) dX11_odds_87 LV_M_275 (r_purseMany (I := I1) hx (by rw [e128]; exact hR)) rfl rfl (fxo_127 hx) rfl (Nat.le_of_ble_eq_true rfl) (Nat.le_of_ble_eq_true rfl) (Nat.le_of_ble_eq_true rfl) (Nat.le_of_ble_eq_true rfl) ?_
              rintro _ _ ⟨rfl, rfl⟩
              rw [e128, epu]
              refine x_i2l dX11_odds_90 ?_
              rw [nI_l (by omega)]
              refine x_iload_n dX11_odds_91 rfl ?_
              refine x_callS (k2 := 0) (n2 := 0) dX11_odds_92 LS_M_213 (r_lowest (u := u) (l := pu) (by omega) (by omega) (by rcases pu with _ | pu; exact absurd (by rw [epu]; rfl) c23; omega)) rfl rfl (Nat.le_of_ble_eq_true rfl) (Nat.le_of_ble_eq_true rfl) (Nat.le_of_ble_eq_true rfl) (Nat.le_of_ble_eq_true rfl) ?_
              rintro _ _ ⟨rfl, rfl⟩
              refine x_lreturn dX11_odds_95 rfl ?_
              exact ⟨I1, by unfold a_odds; rw [if_pos ⟨b_t c7, b_t c16, c23⟩, epu, cN_of e0 (by omega), ha, frI_n (by omega) (by omega)], rfl, hF⟩
            · have him : i < n0 := cge_f (by omega) hi c47
              have hic : i < cN (I 128) 0 := by rw [cN_of e0 (by omega)]; exact him
              obtain ⟨pi, hpi, epi⟩ := pu_of hR hic
              refine x_lload_n dX11_odds_50 rfl ?_
              refine x_aload_n dX11_odds_51 rfl ?_
              refine y_getr dX11_odds_52 F_M_25 (fxo_127 hx) rfl (fxp_127_11 hx) ?_
              refine x_iload dX11_odds_55 rfl ?_
              refine y_iaload dX11_odds_57 (fxk_132 hx) (vi (j := i) rfl (by omega) (by decide)) (rI (j := i) (ci rfl (by omega)) ((hW i (by omega)).trans (wv_in hic))) ?_
              refine x_iload_n dX11_odds_58 rfl ?_
              refine x_icmp_lt (tgt := 76) dX11_odds_59 rfl (fun c59 => ?_) (fun c59 => ?_)
              · refine x_lconst (v := 0) dX11_odds_76 (by decide) ?_
                refine x_ladd dX11_odds_77 ?_
                first | rw [lN_add] | rw [show lN u + 0 = lN u from Int64.add_zero _]
                refine x_lstore_n dX11_odds_78 (Nat.le_of_ble_eq_true rfl) ?_
                try simp only [xst, xst2, xclr, xset, xwide]
                refine x_iinc (v := (nI (i + 1))) dX11_odds_79 rfl (nI_1 _) (Nat.le_of_ble_eq_true rfl) ?_
                try simp only [xst, xst2, xclr, xset, xwide]
                refine x_goto (tgt := 39) dX11_odds_82 rfl ?_
                first | exact ih39 (i + 1) (u + pi) (by omega) (by omega) (by show opS (I 128) q i + (if q ≤ wc (I 128) i then I 128 (22 + i) else 0) = _; rw [ha, if_pos (Int32.not_lt.mp c59), epi, nI_add]) (by omega) | exact ih39 (i + 1) u (by omega) (by omega) (by show opS (I 128) q i + (if q ≤ wc (I 128) i then I 128 (22 + i) else 0) = _; rw [ha, if_neg (Int32.not_le.mpr c59)]; exact Int32.add_zero _) (by omega)
              · refine x_aload_n dX11_odds_62 rfl ?_
                refine y_getr dX11_odds_63 F_M_9 (fxo_127 hx) rfl (fxp_127_1 hx) ?_
                refine x_bipush (v := 22) dX11_odds_66 (by decide) ?_
                refine x_iload dX11_odds_68 rfl ?_
                refine x_iadd dX11_odds_70 ?_
                refine y_iaload dX11_odds_71 (fxk_128 hx) (vi (j := (22 + i)) (nadd (a := 22) (b := i) rfl rfl) (by omega) (by decide)) (rI (j := (22 + i)) (ci (nadd (a := 22) (b := i) rfl rfl) (by omega)) ((congrFun e128 _).trans epi)) ?_
                refine x_i2l dX11_odds_72 ?_
                rw [nI_l (by omega)]
                refine x_goto (tgt := 77) dX11_odds_73 rfl ?_
                refine x_ladd dX11_odds_77 ?_
                first | rw [lN_add] | rw [show lN u + 0 = lN u from Int64.add_zero _]
                refine x_lstore_n dX11_odds_78 (Nat.le_of_ble_eq_true rfl) ?_
                try simp only [xst, xst2, xclr, xset, xwide]
                refine x_iinc (v := (nI (i + 1))) dX11_odds_79 rfl (nI_1 _) (Nat.le_of_ble_eq_true rfl) ?_
                try simp only [xst, xst2, xclr, xset, xwide]
                refine x_goto (tgt := 39) dX11_odds_82 rfl ?_
                first | exact ih39 (i + 1) (u + pi) (by omega) (by omega) (by show opS (I 128) q i + (if q ≤ wc (I 128) i then I 128 (22 + i) else 0) = _; rw [ha, if_pos (Int32.not_lt.mp c59), epi, nI_add]) (by omega) | exact ih39 (i + 1) u (by omega) (by omega) (by show opS (I 128) q i + (if q ≤ wc (I 128) i then I 128 (22 + i) else 0) = _; rw [ha, if_neg (Int32.not_le.mpr c59)]; exact Int32.add_zero _) (by omega)
        exact K39 _ 0 0 (Nat.zero_le _) (by decide) rfl (Nat.lt_succ_self _)
      · refine x_ldc2 dX11_odds_26 K_M_211 ?_
        refine x_lreturn dX11_odds_29 rfl ?_
        exact ⟨I, by unfold a_odds; rw [if_neg (fun h => by grind)], rfl, xFrm.rf⟩

set_option maxHeartbeats 4000000 in
set_option maxRecDepth 100000 in
theorem r_mean {g : xG} {nx : Nat} {sh : Nat → Nat × Nat} {P : Nat → Nat → Option Nat} {I : Nat → Nat → Int32} (hx : xFx sh P) {part : Int32} (hR : RI (I 128)) : xMet g Y_M_mean 5 0 0 [.ref 127, .int part] (nx, sh, P, I) (fun r σ => ∃ I1 : Nat → Nat → Int32, r = some (.long (a_mean (I 128) part)) ∧ σ = (nx, sh, P, I1) ∧ xFrm [130, 131, 132] I I1) := by
  refine xMet.of [some (.ref 127), some (.int part)] (by decide +kernel) (Nat.le_of_ble_eq_true rfl) rfl ?_
  obtain ⟨⟨n0, b0, e0⟩, ⟨n1, b1, e1⟩, ⟨n2, b2, e2⟩, ⟨n3, b3, e3⟩, ⟨n4, b4, e4⟩, ⟨n5, b5, e5⟩, ⟨n6, b6, e6⟩, ⟨n7, b7, e7⟩, ⟨n9, b9, e9⟩⟩ := hR.k
  obtain ⟨pu, hpu, epu⟩ := puS_bd hR (cN (I 128) 0) (Nat.le_refl _)
  rw [cN_of e0 (by omega)] at hpu
  refine x_iload_n dX11_mean_0 rfl ?_
  refine x_iconst (v := 0) dX11_mean_1 (by decide) ?_
  refine x_iconst (v := 1) dX11_mean_2 (by decide) ?_
  refine x_callS (k2 := 0) (n2 := 0) dX11_mean_3 LS_M_65 r_in rfl rfl (Nat.le_of_ble_eq_true rfl) (Nat.le_of_ble_eq_true rfl) (Nat.le_of_ble_eq_true rfl) (Nat.le_of_ble_eq_true rfl) ?_
  rintro _ _ ⟨rfl, rfl⟩
  refine x_if_eq (tgt := 16) dX11_mean_6 rfl (fun c6 => ?_) (fun c6 => ?_)
  · refine x_ldc2 dX11_mean_16 K_M_211 ?_
    refine x_lreturn dX11_mean_19 rfl ?_
    exact ⟨I, by unfold a_mean; rw [if_neg (fun h => by grind)], rfl, xFrm.rf⟩
  · refine x_aload_n dX11_mean_9 rfl ?_
    refine x_callV (k2 := 0) (n2 := 0) dX11_mean_10 LV_M_275 (r_purseMany hx hR) rfl rfl (fxo_127 hx) rfl (Nat.le_of_ble_eq_true rfl) (Nat.le_of_ble_eq_true rfl) (Nat.le_of_ble_eq_true rfl) (Nat.le_of_ble_eq_true rfl) ?_
    rintro _ _ ⟨rfl, rfl⟩
    refine x_if_ne (tgt := 20) dX11_mean_13 rfl (fun c13 => ?_) (fun c13 => ?_)
    · refine x_aload_n dX11_mean_20 rfl ?_
      refine x_callV (k2 := 0) (n2 := 0) dX11_mean_21 LV_M_174 (r_rich hx hR) rfl rfl (fxo_127 hx) rfl (Nat.le_of_ble_eq_true rfl) (Nat.le_of_ble_eq_true rfl) (Nat.le_of_ble_eq_true rfl) (Nat.le_of_ble_eq_true rfl) ?_
      rintro _ _ ⟨I1, rfl, rfl, hF⟩
      have e128 : I1 128 = I 128 := hF 128 (by decide)
      obtain ⟨rc, hrc, erc⟩ := rcS_bd hR (cN (I 128) 0) (Nat.le_refl _)
      rw [cN_of e0 (by omega)] at hrc
      rw [erc]
      refine x_i2l dX11_mean_24 ?_
      rw [nI_l (by omega)]
      refine x_aload_n dX11_mean_25 rfl ?_
      refine x_callV (k2 := 0) (n2 := 0) dX11_mean_26 LV_M_275 (r_purseMany (I := I1) hx (by rw [e128]; exact hR)) rfl rfl (fxo_127 hx) rfl (Nat.le_of_ble_eq_true rfl) (Nat.le_of_ble_eq_true rfl) (Nat.le_of_ble_eq_true rfl) (Nat.le_of_ble_eq_true rfl) ?_
      rintro _ _ ⟨rfl, rfl⟩
      rw [e128, epu]
      refine x_i2l dX11_mean_29 ?_
      rw [nI_l (by omega)]
      refine x_iload_n dX11_mean_30 rfl ?_
      refine x_callS (k2 := 0) (n2 := 0) dX11_mean_31 LS_M_213 (r_lowest (u := rc) (l := pu) (by omega) (by omega) (by rcases pu with _ | pu; exact absurd (by rw [epu]; rfl) c13; omega)) rfl rfl (Nat.le_of_ble_eq_true rfl) (Nat.le_of_ble_eq_true rfl) (Nat.le_of_ble_eq_true rfl) (Nat.le_of_ble_eq_true rfl) ?_
      rintro _ _ ⟨rfl, rfl⟩
      refine x_lreturn dX11_mean_34 rfl ?_
      exact ⟨I1, by unfold a_mean; rw [if_pos ⟨b_t c6, c13⟩, epu, erc, frI_n (by omega) (by omega)], rfl, hF⟩
    · refine x_ldc2 dX11_mean_16 K_M_211 ?_
      refine x_lreturn dX11_mean_19 rfl ?_
      exact ⟨I, by unfold a_mean; rw [if_neg (fun h => by grind)], rfl, xFrm.rf⟩

theorem LK_day {s f : Nat → Int32} {d : Int32} : LK (upd s 9 d) f = LK s f := by
  have e8 : upd s 9 d 8 = s 8 := if_neg (by decide)
  unfold LK
  rw [e8, show upd s 9 d (227 + (s 8).toNatClampNeg) = s (227 + (s 8).toNatClampNeg) from if_neg (by omega)]
  rw [show (fun i => upd s 9 d (232 + 140 * (s 8).toNatClampNeg + i)) = fun i => s (232 + 140 * (s 8).toNatClampNeg + i) from funext fun i => if_neg (by omega)]
theorem xLw.day {s : Nat → Int32} {d : Int32} (h : xLw s) : xLw (upd s 9 d) := by
  have e8 : upd s 9 d 8 = s 8 := if_neg (by decide)
  rcases h with z | ⟨a, mm, h1, h2, h3, h4, h5⟩
  · exact Or.inl (e8.trans z)
  · refine Or.inr ⟨a, mm, h1, e8.trans h2, (if_neg (by omega)).trans h3, h4, ?_⟩
    rw [show (fun i => upd s 9 d (232 + 140 * a + i)) = fun i => s (232 + 140 * a + i) from funext fun i => if_neg (by omega)]
    exact h5
theorem xFa_up {s : Nat → Int32} {c k : Nat} {d base purse day : Int32} (hc : c < 4) (hk : k < 10 ∨ (18 ≤ k ∧ k < 26)) : xFa (upd s k d) c base purse day = xFa s c base purse day := by
  funext j
  have u1 : upd s k d (10 + c) = s (10 + c) := if_neg (by omega)
  have u2 : upd s k d (14 + c) = s (14 + c) := if_neg (by omega)
  match j with
  | 0 => rfl
  | 1 => exact u1
  | 2 => exact u2
  | 3 => rfl
  | 4 => rfl
  | j + 5 => rfl
theorem wo_day {s : Nat → Int32} {c : Nat} {d base purse day : Int32} (hc : c < 4) : wo (upd s 9 d) c base purse day = wo s c base purse day := by
  unfold wo
  rw [LK_day, xFa_up hc (by omega)]
  have u1 : upd s 9 d (10 + c) = s (10 + c) := if_neg (by omega)
  have u2 : upd s 9 d (14 + c) = s (14 + c) := if_neg (by omega)
  have u3 : upd s 9 d (26 + 4 * c + (day - day / 4 * 4).toNatClampNeg) = s (26 + 4 * c + (day - day / 4 * 4).toNatClampNeg) := if_neg (by omega)
  rw [u1, u2, u3]
/-- the first of k days from n on by which coin c is worth less -/
def laS (s : Nat → Int32) (c : Nat) : Nat → Nat → Int32
  | 0, _ => -5
  | k + 1, n => if wo s c (s (18 + c)) (s (22 + c)) (s 9 + nI n) < wc s c then nI n else laS s c k (n + 1)
def a_lasting (s : Nat → Int32) (c : Int32) : Int32 := if 0 ≤ c ∧ c < s 0 then laS s c.toNatClampNeg 100 0 else -1
theorem upd_upd {f : Nat → Int32} {k : Nat} {x y : Int32} : upd (upd f k x) k y = upd f k y := by
  funext j; unfold upd; by_cases h : j = k
  · rw [if_pos h, if_pos h]
  · rw [if_neg h, if_neg h, if_neg h]
theorem upd_id {f : Nat → Int32} {k : Nat} : upd f k (f k) = f := by
  funext j; unfold upd; by_cases h : j = k
  · rw [if_pos h, h]
  · rw [if_neg h]
/-- the first row of BOOK that is not so, m rows from k on -/
def lkS' (s : Nat → Int32) : Nat → Nat → Int32
  | 0, _ => -5
  | m + 1, k => if wc s (cN s (101 + k)) = s (109 + k) then lkS' s m (k + 1) else nI k
def a_looked (s : Nat → Int32) : Int32 := lkS' s (cN s 6) 0
theorem nI_m5 {n : Nat} (h : n < 2 ^ 31) : ¬ nI n = -5 := fun z => by have := nI_pos h; rw [z] at this; exact this (by decide)

set_option maxHeartbeats 4000000 in
set_option maxRecDepth 100000 in
theorem r_lasting {g : xG} {nx : Nat} {sh : Nat → Nat × Nat} {P : Nat → Nat → Option Nat} {I : Nat → Nat → Int32} (hx : xFx sh P) {c : Int32} (hR : RI (I 128)) : xMet g Y_M_lasting 3 0 0 [.ref 127, .int c] (nx, sh, P, I) (fun r σ => ∃ I1 : Nat → Nat → Int32, r = some (.int (a_lasting (I 128) c)) ∧ σ = (nx, sh, P, I1) ∧ I1 128 = I 128 ∧ xFrm [128, 130, 131] I I1) := by
  refine xMet.of [some (.ref 127), some (.int c), none, none, none, none] (by decide +kernel) (Nat.le_of_ble_eq_true rfl) rfl ?_
  obtain ⟨⟨n0, b0, e0⟩, ⟨n1, b1, e1⟩, ⟨n2, b2, e2⟩, ⟨n3, b3, e3⟩, ⟨n4, b4, e4⟩, ⟨n5, b5, e5⟩, ⟨n6, b6, e6⟩, ⟨n7, b7, e7⟩, ⟨n9, b9, e9⟩⟩ := hR.k
  refine x_aload_n dX11_lasting_0 rfl ?_
  refine x_iload_n dX11_lasting_1 rfl ?_
  refine x_callV (k2 := 0) (n2 := 0) dX11_lasting_2 LV_M_161 (r_isCoin hx hR.nn0) rfl rfl (fxo_127 hx) rfl (Nat.le_of_ble_eq_true rfl) (Nat.le_of_ble_eq_true rfl) (Nat.le_of_ble_eq_true rfl) (Nat.le_of_ble_eq_true rfl) ?_
  rintro _ _ ⟨rfl, rfl⟩
  refine x_if_ne (tgt := 10) dX11_lasting_5 rfl (fun c5 => ?_) (fun c5 => ?_)
  · obtain ⟨q, hq, rfl⟩ := i_2 (n := n0) (by omega) (by rw [← e0]; exact b_t c5)
    have hqc : q < cN (I 128) 0 := by rw [cN_of e0 (by omega)]; exact hq
    refine x_aload_n dX11_lasting_10 rfl ?_
    refine y_getr dX11_lasting_11 F_M_9 (fxo_127 hx) rfl (fxp_127_1 hx) ?_
    refine x_bipush (v := 9) dX11_lasting_14 (by decide) ?_
    refine y_iaload dX11_lasting_16 (fxk_128 hx) (vi (j := 9) rfl (by omega) (by decide)) (rI (j := 9) (ci rfl (by omega)) rfl) ?_
    refine x_istore_n dX11_lasting_17 (Nat.le_of_ble_eq_true rfl) ?_
    try simp only [xst, xst2, xclr, xset, xwide]
    refine x_aload_n dX11_lasting_18 rfl ?_
    refine x_iload_n dX11_lasting_19 rfl ?_
    refine x_aload_n dX11_lasting_20 rfl ?_
    refine y_getr dX11_lasting_21 F_M_9 (fxo_127 hx) rfl (fxp_127_1 hx) ?_
    refine x_bipush (v := 18) dX11_lasting_24 (by decide) ?_
    refine x_iload_n dX11_lasting_26 rfl ?_
    refine x_iadd dX11_lasting_27 ?_
    refine y_iaload dX11_lasting_28 (fxk_128 hx) (vi (j := (18 + q)) (nadd (a := 18) (b := q) rfl rfl) (by omega) (by decide)) (rI (j := (18 + q)) (ci (nadd (a := 18) (b := q) rfl rfl) (by omega)) rfl) ?_
    refine x_callV (k2 := 0) (n2 := 0) dX11_lasting_29 LV_M_158 (r_worthOf (c := q) hx (by omega) hR.lw hR.dy (hR.kd hqc)) rfl rfl (fxo_127 hx) rfl (Nat.le_of_ble_eq_true rfl) (Nat.le_of_ble_eq_true rfl) (Nat.le_of_ble_eq_true rfl) (Nat.le_of_ble_eq_true rfl) ?_
    rintro _ _ ⟨I1, rfl, rfl, hF⟩
    have e128 : I1 128 = I 128 := hF 128 (by decide)
    refine x_istore_n dX11_lasting_32 (Nat.le_of_ble_eq_true rfl) ?_
    try simp only [xst, xst2, xclr, xset, xwide]
    refine x_bipush (v := (-5)) dX11_lasting_33 (by decide) ?_
    refine x_istore dX11_lasting_35 (Nat.le_of_ble_eq_true rfl) ?_
    try simp only [xst, xst2, xclr, xset, xwide]
    refine x_iconst (v := 0) dX11_lasting_37 (by decide) ?_
    refine x_istore dX11_lasting_38 (Nat.le_of_ble_eq_true rfl) ?_
    try simp only [xst, xst2, xclr, xset, xwide]
    have K40 : ∀ (fuel : Nat) (i : Nat) (fd : Int32) (dd : Int32) (I2 : Nat → Nat → Int32) (hi : i ≤ 100) (hfd : (fd = -5 ∧ laS (I 128) q (100 - i) i = laS (I 128) q 100 0) ∨ (¬ fd = -5 ∧ fd = laS (I 128) q 100 0)) (h2 : I2 128 = upd (I 128) 9 dd) (hF2 : xFrm [128, 130, 131] I I2), 100 - i < fuel → xX g Y_M_lasting 3 0 0 (fun r σ => ∃ I1 : Nat → Nat → Int32, r = some (.int (a_lasting (I 128) (nI q))) ∧ σ = (nx, sh, P, I1) ∧ I1 128 = I 128 ∧ xFrm [128, 130, 131] I I1) 40 [some (.ref 127), some (.int (nI q)), some (.int (I 128 9)), some (.int (wc (I 128) q)), some (.int fd), some (.int (nI i))] [] (nx, sh, P, I2) := by
      intro fuel
      induction fuel with
      | zero => intro i fd dd I2 hi hfd h2 hF2 hm; exact absurd hm (Nat.not_lt_zero _)
      | succ fuel ih40 =>
        intro i fd dd I2 hi hfd h2 hF2 hm
        
        refine x_iload dX11_lasting_40 rfl ?_
        refine x_bipush (v := 100) dX11_lasting_42 (by decide) ?_
        refine x_icmp_ge (tgt := 98) dX11_lasting_44 rfl (fun c44 => ?_) (fun c44 => ?_)
        · have hie : i = 100 := cge_t (by decide) hi c44
          subst hie
          have hfin : fd = laS (I 128) q 100 0 := by
            rcases hfd with ⟨h, h9⟩ | ⟨-, h⟩
            · rw [h, ← h9]; rfl
            · exact h
          refine x_aload_n dX11_lasting_98 rfl ?_
          refine y_getr dX11_lasting_99 F_M_9 (fxo_127 hx) rfl (fxp_127_1 hx) ?_
          refine x_bipush (v := 9) dX11_lasting_102 (by decide) ?_
          refine x_iload_n dX11_lasting_104 rfl ?_
          refine y_iastore dX11_lasting_105 (fxk_128 hx) (vi (j := 9) rfl (by omega) (by decide)) (ci (j := 9) rfl (by omega)) ?_
          rw [xup_va, h2, upd_upd, upd_id]
          refine x_iload dX11_lasting_106 rfl ?_
          refine x_ireturn dX11_lasting_108 rfl nb_int ?_
          exact ⟨_, by unfold a_lasting; rw [if_pos (b_t c5), nI_clamp (by omega), hfin], rfl, va_up_at, hF2.up⟩
        · have him : i < 100 := cge_f (by decide) hi c44
          refine x_iload dX11_lasting_47 rfl ?_
          refine x_bipush (v := (-5)) dX11_lasting_49 (by decide) ?_
          refine x_icmp_ne (tgt := 98) dX11_lasting_51 rfl (fun c51 => ?_) (fun c51 => ?_)
          · have hfin : fd = laS (I 128) q 100 0 := by
              rcases hfd with ⟨h, -⟩ | ⟨-, h⟩
              · exact absurd h c51
              · exact h
            refine x_aload_n dX11_lasting_98 rfl ?_
            refine y_getr dX11_lasting_99 F_M_9 (fxo_127 hx) rfl (fxp_127_1 hx) ?_
            refine x_bipush (v := 9) dX11_lasting_102 (by decide) ?_
            refine x_iload_n dX11_lasting_104 rfl ?_
            refine y_iastore dX11_lasting_105 (fxk_128 hx) (vi (j := 9) rfl (by omega) (by decide)) (ci (j := 9) rfl (by omega)) ?_
            rw [xup_va, h2, upd_upd, upd_id]
            refine x_iload dX11_lasting_106 rfl ?_
            refine x_ireturn dX11_lasting_108 rfl nb_int ?_
            exact ⟨_, by unfold a_lasting; rw [if_pos (b_t c5), nI_clamp (by omega), hfin], rfl, va_up_at, hF2.up⟩
          · have hla : laS (I 128) q (100 - i) i = laS (I 128) q 100 0 := by
              rcases hfd with ⟨-, h⟩ | ⟨h, -⟩
              · exact h
              · exact absurd c51 h
            refine x_aload_n dX11_lasting_54 rfl ?_
            refine y_getr dX11_lasting_55 F_M_9 (fxo_127 hx) rfl (fxp_127_1 hx) ?_
            refine x_bipush (v := 9) dX11_lasting_58 (by decide) ?_
            refine x_iload_n dX11_lasting_60 rfl ?_
            refine x_iload dX11_lasting_61 rfl ?_
            refine x_iadd dX11_lasting_63 ?_
            refine y_iastore dX11_lasting_64 (fxk_128 hx) (vi (j := 9) rfl (by omega) (by decide)) (ci (j := 9) rfl (by omega)) ?_
            rw [xup_va, h2, upd_upd]
            refine x_aload_n dX11_lasting_65 rfl ?_
            refine x_iload_n dX11_lasting_66 rfl ?_
            refine x_aload_n dX11_lasting_67 rfl ?_
            refine y_getr dX11_lasting_68 F_M_9 (fxo_127 hx) rfl (fxp_127_1 hx) ?_
            refine x_bipush (v := 18) dX11_lasting_71 (by decide) ?_
            refine x_iload_n dX11_lasting_73 rfl ?_
            refine x_iadd dX11_lasting_74 ?_
            refine y_iaload dX11_lasting_75 (fxk_128 hx) (vi (j := (18 + q)) (nadd (a := 18) (b := q) rfl rfl) (by omega) (by decide)) (rI (j := 18 + q) (ci (nadd (a := 18) (b := q) rfl rfl) (by omega)) ((congrFun va_up_at _).trans (if_neg (by omega)))) ?_
            refine x_callV (k2 := 0) (n2 := 0) dX11_lasting_76 LV_M_158 (r_worthOf (I := va_up I2 128 (upd (I 128) 9 (I 128 9 + nI i))) (c := q) hx (by omega) (by rw [va_up_at]; exact hR.lw.day) (by rw [va_up_at]; exact ⟨n9 + i, by omega, by unfold upd; rw [if_pos rfl, e9, nI_add]⟩) (by rw [va_up_at]; obtain ⟨k, hk, e⟩ := hR.kd hqc; exact ⟨k, hk, (if_neg (by omega)).trans e⟩)) rfl rfl (fxo_127 hx) rfl (Nat.le_of_ble_eq_true rfl) (Nat.le_of_ble_eq_true rfl) (Nat.le_of_ble_eq_true rfl) (Nat.le_of_ble_eq_true rfl) ?_
            rintro _ _ ⟨I3, rfl, rfl, hG⟩
            have h3 : I3 128 = upd (I 128) 9 (I 128 9 + nI i) := (hG 128 (by decide)).trans va_up_at
            have hF3 : xFrm [128, 130, 131] I I3 := (hF2.up (l := [128, 130, 131])).tr hG
            have hwo : wo (va_up I2 128 (upd (I 128) 9 (I 128 9 + nI i)) 128) q (I 128 (18 + q)) (va_up I2 128 (upd (I 128) 9 (I 128 9 + nI i)) 128 (22 + q)) (va_up I2 128 (upd (I 128) 9 (I 128 9 + nI i)) 128 9) = wo (I 128) q (I 128 (18 + q)) (I 128 (22 + q)) (I 128 9 + nI i) := by
              rw [va_up_at, wo_day (by omega), show upd (I 128) 9 (I 128 9 + nI i) (22 + q) = I 128 (22 + q) from if_neg (by omega), show upd (I 128) 9 (I 128 9 + nI i) 9 = I 128 9 + nI i from if_pos rfl]
            rw [hwo]
            have hun : laS (I 128) q (100 - i) i = if wo (I 128) q (I 128 (18 + q)) (I 128 (22 + q)) (I 128 9 + nI i) < wc (I 128) q then nI i else laS (I 128) q (100 - (i + 1)) (i + 1) := by rw [show 100 - i = (100 - (i + 1)) + 1 by omega]; rfl
            have hst : wo (I 128) q (I 128 (18 + q)) (I 128 (22 + q)) (I 128 9 + nI i) < wc (I 128) q ↔ (wo (I 128) q (I 128 (18 + q)) (I 128 (22 + q)) (I 128 9 + nI i) < wc (I 128) q) := Iff.rfl
            have hst : wo (I 128) q (I 128 (18 + q)) (I 128 (22 + q)) (I 128 9 + nI i) < wc (I 128) q → nI i = laS (I 128) q 100 0 := fun h => by rw [← hla, hun, if_pos h]
            have hst2 : ¬ wo (I 128) q (I 128 (18 + q)) (I 128 (22 + q)) (I 128 9 + nI i) < wc (I 128) q → laS (I 128) q (100 - (i + 1)) (i + 1) = laS (I 128) q 100 0 := fun h => by rw [← hla, hun, if_neg h]
            refine x_iload_n dX11_lasting_79 rfl ?_
            refine x_icmp_ge (tgt := 88) dX11_lasting_80 rfl (fun c80 => ?_) (fun c80 => ?_)
            · refine x_bipush (v := (-5)) dX11_lasting_88 (by decide) ?_
              refine x_istore dX11_lasting_90 (Nat.le_of_ble_eq_true rfl) ?_
              try simp only [xst, xst2, xclr, xset, xwide]
              refine x_iinc (v := (nI (i + 1))) dX11_lasting_92 rfl (nI_1 _) (Nat.le_of_ble_eq_true rfl) ?_
              try simp only [xst, xst2, xclr, xset, xwide]
              refine x_goto (tgt := 40) dX11_lasting_95 rfl ?_
              first | exact ih40 (i + 1) _ _ I3 (by omega) (Or.inr ⟨nI_m5 (by omega), hst (Int32.not_le.mp c80)⟩) h3 hF3 (by omega) | exact ih40 (i + 1) _ _ I3 (by omega) (Or.inl ⟨rfl, hst2 (Int32.not_lt.mpr c80)⟩) h3 hF3 (by omega)
            · refine x_iload dX11_lasting_83 rfl ?_
              refine x_goto (tgt := 90) dX11_lasting_85 rfl ?_
              refine x_istore dX11_lasting_90 (Nat.le_of_ble_eq_true rfl) ?_
              try simp only [xst, xst2, xclr, xset, xwide]
              refine x_iinc (v := (nI (i + 1))) dX11_lasting_92 rfl (nI_1 _) (Nat.le_of_ble_eq_true rfl) ?_
              try simp only [xst, xst2, xclr, xset, xwide]
              refine x_goto (tgt := 40) dX11_lasting_95 rfl ?_
              first | exact ih40 (i + 1) _ _ I3 (by omega) (Or.inr ⟨nI_m5 (by omega), hst (Int32.not_le.mp c80)⟩) h3 hF3 (by omega) | exact ih40 (i + 1) _ _ I3 (by omega) (Or.inl ⟨rfl, hst2 (Int32.not_lt.mpr c80)⟩) h3 hF3 (by omega)
    exact K40 _ 0 (-5) (I 128 9) I1 (by decide) (Or.inl ⟨rfl, rfl⟩) (by rw [e128, upd_id]) hF.mono (Nat.lt_succ_self _)
  · refine x_iconst (v := (-1)) dX11_lasting_8 (by decide) ?_
    refine x_ireturn dX11_lasting_9 rfl nb_int ?_
    exact ⟨I, by unfold a_lasting; rw [if_neg (by have := c5; intro h; rw [if_pos h] at this; exact absurd this (by decide))], rfl, rfl, xFrm.rf⟩

set_option maxHeartbeats 4000000 in
set_option maxRecDepth 100000 in
theorem r_looked {g : xG} {nx : Nat} {sh : Nat → Nat × Nat} {P : Nat → Nat → Option Nat} {I : Nat → Nat → Int32} (hx : xFx sh P) (hR : RI (I 128)) : xMet g Y_M_looked 4 0 0 [.ref 127] (nx, sh, P, I) (fun r σ => ∃ I1 : Nat → Nat → Int32, r = some (.int (a_looked (I 128))) ∧ σ = (nx, sh, P, I1) ∧ xFrm [130, 131, 132] I I1) := by
  refine xMet.of [some (.ref 127), none] (by decide +kernel) (Nat.le_of_ble_eq_true rfl) rfl ?_
  obtain ⟨⟨n0, b0, e0⟩, ⟨n1, b1, e1⟩, ⟨n2, b2, e2⟩, ⟨n3, b3, e3⟩, ⟨n4, b4, e4⟩, ⟨n5, b5, e5⟩, ⟨n6, b6, e6⟩, ⟨n7, b7, e7⟩, ⟨n9, b9, e9⟩⟩ := hR.k
  refine x_aload_n dX11_looked_0 rfl ?_
  refine x_callV (k2 := 0) (n2 := 0) dX11_looked_1 LV_M_165 (r_looksForWorths hx hR) rfl rfl (fxo_127 hx) rfl (Nat.le_of_ble_eq_true rfl) (Nat.le_of_ble_eq_true rfl) (Nat.le_of_ble_eq_true rfl) (Nat.le_of_ble_eq_true rfl) ?_
  rintro _ _ ⟨I1, rfl, rfl, hF, hW⟩
  have e128 : I1 128 = I 128 := hF 128 (by decide)
  refine x_iconst (v := 0) dX11_looked_4 (by decide) ?_
  refine x_istore_n dX11_looked_5 (Nat.le_of_ble_eq_true rfl) ?_
  try simp only [xst, xst2, xclr, xset, xwide]
  have K6 : ∀ (fuel : Nat) (i : Nat) (hi : i ≤ n6) (ha : lkS' (I 128) (n6 - i) i = a_looked (I 128)), n6 - i < fuel → xX g Y_M_looked 4 0 0 (fun r σ => ∃ I1 : Nat → Nat → Int32, r = some (.int (a_looked (I 128))) ∧ σ = (nx, sh, P, I1) ∧ xFrm [130, 131, 132] I I1) 6 [some (.ref 127), some (.int (nI i))] [] (nx, sh, P, I1) := by
    intro fuel
    induction fuel with
    | zero => intro i hi ha hm; exact absurd hm (Nat.not_lt_zero _)
    | succ fuel ih6 =>
      intro i hi ha hm
      refine x_iload_n dX11_looked_6 rfl ?_
      refine x_aload_n dX11_looked_7 rfl ?_
      refine y_getr dX11_looked_8 F_M_9 (fxo_127 hx) rfl (fxp_127_1 hx) ?_
      refine x_bipush (v := 6) dX11_looked_11 (by decide) ?_
      refine y_iaload dX11_looked_13 (fxk_128 hx) (vi (j := 6) rfl (by omega) (by decide)) (rI (j := 6) rfl ((congrFun e128 _).trans e6)) ?_
      refine x_icmp_ge (tgt := 51) dX11_looked_14 rfl (fun c14 => ?_) (fun c14 => ?_)
      · have hie : i = n6 := cge_t (by omega) hi c14
        refine x_bipush (v := (-5)) dX11_looked_51 (by decide) ?_
        refine x_ireturn dX11_looked_53 rfl nb_int ?_
        subst hie
        exact ⟨I1, by rw [← ha, Nat.sub_self]; rfl, rfl, hF⟩
      · have him : i < n6 := cge_f (by omega) hi c14
        obtain ⟨cc, hcc, ecc⟩ := (hR.2.2.2.2.2.2.2.2.2.1 i (by rw [cN_of e6 (by omega)]; exact him)).1
        have hcc4 : cc < 4 := by have := hR.c0.2; omega
        have hwc : I1 132 cc = wc (I 128) cc := (hW cc hcc4).trans (wv_in hcc)
        have hun : lkS' (I 128) (n6 - i) i = if wc (I 128) (cN (I 128) (101 + i)) = I 128 (109 + i) then lkS' (I 128) (n6 - (i + 1)) (i + 1) else nI i := by rw [show n6 - i = (n6 - (i + 1)) + 1 by omega]; rfl
        have ec2 : I1 128 (109 + i) = I 128 (109 + i) := congrFun e128 _
        rw [cN_of ecc (by omega)] at hun
        refine x_aload_n dX11_looked_17 rfl ?_
        refine y_getr dX11_looked_18 F_M_25 (fxo_127 hx) rfl (fxp_127_11 hx) ?_
        refine x_aload_n dX11_looked_21 rfl ?_
        refine y_getr dX11_looked_22 F_M_9 (fxo_127 hx) rfl (fxp_127_1 hx) ?_
        refine x_bipush (v := 101) dX11_looked_25 (by decide) ?_
        refine x_iload_n dX11_looked_27 rfl ?_
        refine x_iadd dX11_looked_28 ?_
        refine y_iaload dX11_looked_29 (fxk_128 hx) (vi (j := (101 + i)) (nadd (a := 101) (b := i) rfl rfl) (by omega) (by decide)) (rI (j := (101 + i)) (ci (nadd (a := 101) (b := i) rfl rfl) (by omega)) ((congrFun e128 _).trans ecc)) ?_
        refine y_iaload dX11_looked_30 (fxk_132 hx) (vi (j := cc) rfl (by omega) (by decide)) (rI (j := cc) (ci rfl (by omega)) rfl) ?_
        refine x_aload_n dX11_looked_31 rfl ?_
        refine y_getr dX11_looked_32 F_M_9 (fxo_127 hx) rfl (fxp_127_1 hx) ?_
        refine x_bipush (v := 109) dX11_looked_35 (by decide) ?_
        refine x_iload_n dX11_looked_37 rfl ?_
        refine x_iadd dX11_looked_38 ?_
        refine y_iaload dX11_looked_39 (fxk_128 hx) (vi (j := (109 + i)) (nadd (a := 109) (b := i) rfl rfl) (by omega) (by decide)) (rI (j := (109 + i)) (ci (nadd (a := 109) (b := i) rfl rfl) (by omega)) rfl) ?_
        refine x_icmp_eq (tgt := 45) dX11_looked_40 rfl (fun c40 => ?_) (fun c40 => ?_)
        · refine x_iinc (v := (nI (i + 1))) dX11_looked_45 rfl (nI_1 _) (Nat.le_of_ble_eq_true rfl) ?_
          try simp only [xst, xst2, xclr, xset, xwide]
          refine x_goto (tgt := 6) dX11_looked_48 rfl ?_
          exact ih6 (i + 1) (by omega) (by rw [← ha, hun, if_pos (by rw [hwc, ec2] at c40; exact c40)]) (by omega)
        · refine x_iload_n dX11_looked_43 rfl ?_
          refine x_ireturn dX11_looked_44 rfl nb_int ?_
          exact ⟨I1, by rw [← ha, hun, if_neg (by rw [hwc, ec2] at c40; exact c40)], rfl, hF⟩
  exact K6 _ 0 (Nat.zero_le _) (by unfold a_looked; rw [cN_of e6 (by omega)]; rfl) (Nat.lt_succ_self _)
