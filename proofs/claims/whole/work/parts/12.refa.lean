/-! the reference: small methods; what a land's words come to -/
theorem vi {i : Int32} {j len : Nat} (e : i = nI j) (h : j < len) (hl : len < 2 ^ 31) : vp_in i len := by subst e; exact vp_in_nI h hl
theorem ci {i : Int32} {j : Nat} (e : i = nI j) (hl : j < 2 ^ 31) : i.toNatClampNeg = j := by subst e; exact nI_clamp hl
theorem rI {I : Nat → Nat → Int32} {b j : Nat} {x v : Int32} (hx : x.toNatClampNeg = j) (h : I b j = v) : I b x.toNatClampNeg = v := by rw [hx]; exact h
theorem rdn {I : Nat → Nat → Int32} {a b j : Nat} {f : Nat → Int32} (h : b ≠ a) : va_up I a f b j = I b j := congrFun (va_up_no h) j
theorem xup_va {I : Nat → Nat → Int32} {a k : Nat} {v : Int32} : xup I a k v = va_up I a (upd (I a) k v) := rfl
/-- nothing but these rows has changed -/
def xFrm (l : List Nat) (I I1 : Nat → Nat → Int32) : Prop := ∀ b, b ∉ l → I1 b = I b
theorem xFrm.rf {l : List Nat} {I : Nat → Nat → Int32} : xFrm l I I := fun _ _ => rfl
theorem xFrm.tr {l l1 l2 : List Nat} {I I1 I2 : Nat → Nat → Int32} (h1 : xFrm l1 I I1) (h2 : xFrm l2 I1 I2) (hl1 : ∀ b ∈ l1, b ∈ l := by decide) (hl2 : ∀ b ∈ l2, b ∈ l := by decide) : xFrm l I I2 := fun b hb => (h2 b (fun z => hb (hl2 b z))).trans (h1 b (fun z => hb (hl1 b z)))
theorem xFrm.mono {l l1 : List Nat} {I I1 : Nat → Nat → Int32} (h1 : xFrm l1 I I1) (hl1 : ∀ b ∈ l1, b ∈ l := by decide) : xFrm l I I1 := fun b hb => h1 b (fun z => hb (hl1 b z))
theorem xFrm.up {l l1 : List Nat} {I I1 : Nat → Nat → Int32} {a : Nat} {f : Nat → Int32} (h1 : xFrm l1 I I1) (ha : a ∈ l := by decide) (hl1 : ∀ b ∈ l1, b ∈ l := by decide) : xFrm l I (va_up I1 a f) := fun b hb => (va_up_no (fun z => hb (by rw [z]; exact ha))).trans (h1 b (fun z => hb (hl1 b z)))
theorem xFrm.xup {l l1 : List Nat} {I I1 : Nat → Nat → Int32} {a k : Nat} {v : Int32} (h1 : xFrm l1 I I1) (ha : a ∈ l := by decide) (hl1 : ∀ b ∈ l1, b ∈ l := by decide) : xFrm l I (xup I1 a k v) := fun b hb => (xup_n (fun z => hb (by rw [z]; exact ha))).trans (h1 b (fun z => hb (hl1 b z)))
/-- of the land that holds, the cell that far behind w; v without a land -/
def tlO (s : Nat → Int32) (w : Nat) (v : Int32) : Int32 := if s 8 = -1 then v else s (w + (s 8).toNatClampNeg)
/-- the land that holds, if there is one -/
def xHd (s : Nat → Int32) : Prop := s 8 = -1 ∨ ∃ a, a < 5 ∧ s 8 = nI a
def tpN (s : Nat → Int32) : Int32 := if tlO s 217 9 < 1 then 1 else if 9 < tlO s 217 9 then 9 else tlO s 217 9
/-- a TEST by the facts f -/
def lkT (f : Nat → Int32) (x : Int32) : Bool := if x / 8 - x / 8 / 4 * 4 = 0 then decide (f (x - x / 8 * 8).toNatClampNeg < x / 32) else if x / 8 - x / 8 / 4 * 4 = 1 then decide (f (x - x / 8 * 8).toNatClampNeg = x / 32) else decide (x / 32 < f (x - x / 8 * 8).toNatClampNeg)
/-- a land's steps: n of them from place i on, over a pile of truths and a sum -/
def lkE (p f : Nat → Int32) : Nat → Nat → List Bool → Int32 → Int32
  | 0, _, _, sum => sum
  | n + 1, i, st, sum =>
    if 0 ≤ p i then lkE p f n (i + 1) (lkT f (p i) :: st) sum
    else if p i = -1 then (match st with
      | b :: r => lkE p f n (i + 1) ((!b) :: r) sum
      | [] => 0)
    else if -10 < p i then (match st with
      | b :: a :: r => lkE p f n (i + 1) ((if p i = -2 then a && b else a || b) :: r) sum
      | _ => 0)
    else (match st with
      | b :: _ => lkE p f n (i + 1) [] (sum + (if b = true ∧ -200 < p i then -10 - p i else 0) - (if b = true ∧ p i ≤ -200 then -200 - p i else 0))
      | [] => 0)
/-- the steps are such as can be taken -/
def lkV (p : Nat → Int32) : Nat → Nat → Nat → Prop
  | 0, _, _ => True
  | n + 1, i, d =>
    if 0 ≤ p i then (∃ w, w < 6 ∧ p i - p i / 8 * 8 = nI w) ∧ d < 64 ∧ lkV p n (i + 1) (d + 1)
    else if p i = -1 then 1 ≤ d ∧ lkV p n (i + 1) d
    else if -10 < p i then 2 ≤ d ∧ lkV p n (i + 1) (d - 1)
    else d = 1 ∧ lkV p n (i + 1) 0
/-- the land that holds can be asked -/
def xLw (s : Nat → Int32) : Prop := s 8 = -1 ∨ ∃ a m, a < 5 ∧ s 8 = nI a ∧ s (227 + a) = nI m ∧ m ≤ 140 ∧ lkV (fun i => s (232 + 140 * a + i)) m 0 0
theorem xLw.hd {s : Nat → Int32} (h : xLw s) : xHd s := by
  rcases h with h | ⟨a, m, h1, h2, -⟩
  · exact Or.inl h
  · exact Or.inr ⟨a, h1, h2⟩
/-- what a land's words add to a coin's worth, by the facts -/
def LK (s f : Nat → Int32) : Int32 := if s 8 = -1 then 0 else lkE (fun i => s (232 + 140 * (s 8).toNatClampNeg + i)) f (s (227 + (s 8).toNatClampNeg)).toNatClampNeg 0 [] 0
/-- the facts of a coin -/
def xFa (s : Nat → Int32) (c : Nat) (base purse day : Int32) : Nat → Int32 := fun j => match j with
  | 0 => nI c
  | 1 => s (10 + c)
  | 2 => s (14 + c)
  | 3 => base
  | 4 => day - day / 10 * 10
  | _ => purse
/-- truths on the pile -/
def xPi (t : Nat → Int32) : List Bool → Prop
  | [] => True
  | b :: r => t r.length = (if b = true then 1 else 0) ∧ xPi t r
theorem xPi.up {t : Nat → Int32} {k : Nat} {v : Int32} : ∀ {st : List Bool}, xPi t st → st.length ≤ k → xPi (upd t k v) st
  | [], _, _ => trivial
  | b :: r, h, hk => by
    simp only [List.length_cons] at hk
    exact ⟨by unfold upd; rw [if_neg (by omega)]; exact h.1, h.2.up (by omega)⟩
theorem xPi.put {t : Nat → Int32} {v : Int32} {b : Bool} {st : List Bool} (h : xPi t st) (hv : v = if b = true then 1 else 0) : xPi (upd t st.length v) (b :: st) := ⟨by unfold upd; rw [if_pos rfl]; exact hv, h.up (Nat.le_refl _)⟩

theorem lkT_v {f : Nat → Int32} {x v : Int32} {w : Nat} (hw : w < 6) (hwx : x - x / 8 * 8 = nI w) (h : (x / 8 - x / 8 / 4 * 4 = 0 ∧ ((f w < x / 32 ∧ v = 1) ∨ (¬ f w < x / 32 ∧ v = 0))) ∨ (¬ x / 8 - x / 8 / 4 * 4 = 0 ∧ x / 8 - x / 8 / 4 * 4 = 1 ∧ ((f w = x / 32 ∧ v = 1) ∨ (¬ f w = x / 32 ∧ v = 0))) ∨ (¬ x / 8 - x / 8 / 4 * 4 = 0 ∧ ¬ x / 8 - x / 8 / 4 * 4 = 1 ∧ ((x / 32 < f w ∧ v = 1) ∨ (¬ x / 32 < f w ∧ v = 0)))) : v = if lkT f x = true then 1 else 0 := by
  unfold lkT
  rw [hwx, nI_clamp (by omega)]
  rcases h with ⟨h1, ⟨h2, h3⟩ | ⟨h2, h3⟩⟩ | ⟨h1, h1', ⟨h2, h3⟩ | ⟨h2, h3⟩⟩ | ⟨h1, h1', ⟨h2, h3⟩ | ⟨h2, h3⟩⟩
  · rw [if_pos h1, decide_eq_true h2, h3]; rfl
  · rw [if_pos h1, decide_eq_false h2, h3]; rfl
  · rw [if_neg h1, if_pos h1', decide_eq_true h2, h3]; rfl
  · rw [if_neg h1, if_pos h1', decide_eq_false h2, h3]; rfl
  · rw [if_neg h1, if_neg h1', decide_eq_true h2, h3]; rfl
  · rw [if_neg h1, if_neg h1', decide_eq_false h2, h3]; rfl
theorem bn_t {b : Bool} (h : ¬ (if b = true then (1 : Int32) else 0) = 0) : (0 : Int32) = if (!b) = true then 1 else 0 := by cases b; exact absurd rfl h; rfl
theorem bn_f {b : Bool} (h : (if b = true then (1 : Int32) else 0) = 0) : (1 : Int32) = if (!b) = true then 1 else 0 := by cases b; rfl; exact absurd h (by decide)
theorem bi_t {b : Bool} (h : ¬ (if b = true then (1 : Int32) else 0) = 0) : b = true := by cases b; exact absurd rfl h; rfl
theorem bi_f {b : Bool} (h : (if b = true then (1 : Int32) else 0) = 0) : b = false := by cases b; rfl; exact absurd h (by decide)
theorem bb_v {x v : Int32} {b b2 : Bool} (h : (x = -2 ∧ ((b2 = false ∧ v = 0) ∨ (b2 = true ∧ b = false ∧ v = 0) ∨ (b2 = true ∧ b = true ∧ v = 1))) ∨ (¬ x = -2 ∧ ((b2 = true ∧ v = 1) ∨ (b2 = false ∧ b = false ∧ v = 0) ∨ (b2 = false ∧ b = true ∧ v = 1)))) : v = if (if x = -2 then b2 && b else b2 || b) = true then 1 else 0 := by
  rcases h with ⟨h1, h2⟩ | ⟨h1, h2⟩
  · rw [if_pos h1]; rcases h2 with ⟨h2, h3⟩ | ⟨h2, h3, h4⟩ | ⟨h2, h3, h4⟩ <;> subst_vars <;> rfl
  · rw [if_neg h1]; rcases h2 with ⟨h2, h3⟩ | ⟨h2, h3, h4⟩ | ⟨h2, h3, h4⟩ <;> subst_vars <;> rfl
theorem en_0 {b : Bool} {c : Prop} [Decidable c] {v : Int32} (h : (if b = true then (1 : Int32) else 0) = 0) : (if b = true ∧ c then v else 0) = 0 := by rw [if_neg]; intro z; rw [bi_f h] at z; cases z.1
theorem en_1 {b : Bool} {c : Prop} [Decidable c] {v : Int32} (h : ¬ c) : (if b = true ∧ c then v else 0) = 0 := by rw [if_neg (fun z => h z.2)]
theorem en_2 {b : Bool} {c : Prop} [Decidable c] {v : Int32} (h : ¬ (if b = true then (1 : Int32) else 0) = 0) (h2 : c) : (if b = true ∧ c then v else 0) = v := if_pos ⟨bi_t h, h2⟩

/-- a number of a row as a natural one -/
abbrev cN (s : Nat → Int32) (i : Nat) : Nat := (s i).toNatClampNeg
def RIc (s : Nat → Int32) : Prop := ∀ c, c < cN s 0 → (∃ k, k ≤ 6 ∧ s (10 + c) = nI k) ∧ (∃ v, v ≤ 9 ∧ s (14 + c) = nI v) ∧ (∃ b, 1 ≤ b ∧ b ≤ 9 ∧ s (18 + c) = nI b) ∧ (∃ p, p ≤ 9 ∧ s (22 + c) = nI p) ∧ ∀ k, k < 4 → ∃ q, q ≤ 9 ∧ s (26 + 4 * c + k) = nI q
def RIl (s : Nat → Int32) : Prop := (∀ a, a < cN s 2 → (∃ t, t ≤ 99 ∧ s (217 + a) = nI t) ∧ (∃ t, t ≤ 99 ∧ s (222 + a) = nI t) ∧ ∃ mm, mm ≤ 140 ∧ s (227 + a) = nI mm ∧ lkV (fun i => s (232 + 140 * a + i)) mm 0 0 ∧ ∀ f : Nat → Int32, -1000 ≤ (lkE (fun i => s (232 + 140 * a + i)) f mm 0 [] 0).toInt ∧ (lkE (fun i => s (232 + 140 * a + i)) f mm 0 [] 0).toInt ≤ 1000) ∧ (s 8 = -1 ∨ ∃ a, a < cN s 2 ∧ s 8 = nI a)
def RIx (s : Nat → Int32) : Prop := (∀ i, i < cN s 1 → ∃ p, 1 ≤ p ∧ p ≤ 60 ∧ s (42 + i) = nI p) ∧ (∀ i, i < cN s 3 → (∃ p, p ≤ 99 ∧ s (47 + i) = nI p) ∧ ∀ k, k < 4 → -4 ≤ s (53 + 4 * i + k) ∧ s (53 + 4 * i + k) ≤ 4) ∧ (∀ i, i < cN s 4 → (∃ p, p ≤ 19 ∧ s (77 + i) = nI p) ∧ (∃ p, p ≤ 19 ∧ s (83 + i) = nI p) ∧ ∃ p, p ≤ 399 ∧ s (89 + i) = nI p) ∧ (∀ i, i < cN s 5 → ∃ p, p ≤ 99 ∧ s (95 + i) = nI p) ∧ (∀ i, i < cN s 6 → (∃ p, p < cN s 0 ∧ s (101 + i) = nI p) ∧ ∃ p, 1 ≤ p ∧ p ≤ 99 ∧ s (109 + i) = nI p) ∧ ∀ i, i < cN s 7 → ∃ p, p ≤ 127 ∧ s (117 + i) = nI p
/-- the reference's state: counts within their limits, numbers as told, lands that can be asked -/
def RI (s : Nat → Int32) : Prop := (∀ i, i < 8 → s i = nI (cN s i)) ∧ (cN s 0 ≤ 4 ∧ cN s 1 ≤ 5 ∧ cN s 2 ≤ 5 ∧ cN s 3 ≤ 6 ∧ cN s 4 ≤ 6 ∧ cN s 5 ≤ 6 ∧ cN s 6 ≤ 8 ∧ cN s 7 ≤ 100) ∧ (∃ dy, dy ≤ 9999 ∧ s 9 = nI dy) ∧ RIc s ∧ RIl s ∧ RIx s
theorem RI.hold {s : Nat → Int32} (h : RI s) : s 8 = -1 ∨ ∃ a, a < cN s 2 ∧ s 8 = nI a := h.2.2.2.2.1.2
theorem RI.lw {s : Nat → Int32} (h : RI s) : xLw s := by
  have h2 := h.2.1.2.2.1
  rcases h.hold with z | ⟨a, h3, h4⟩
  · exact Or.inl z
  · obtain ⟨-, -, mm, h5, h6, h7, -⟩ := h.2.2.2.2.1.1 a h3
    exact Or.inr ⟨a, mm, by omega, h4, h6, h5, h7⟩
theorem RI.dy {s : Nat → Int32} (h : RI s) : ∃ dy, dy ≤ 20000 ∧ s 9 = nI dy := by obtain ⟨d, h1, h2⟩ := h.2.2.1; exact ⟨d, by omega, h2⟩
theorem RI.hd {s : Nat → Int32} (h : RI s) : xHd s := h.lw.hd
theorem RI.c0 {s : Nat → Int32} (h : RI s) : s 0 = nI (cN s 0) ∧ cN s 0 ≤ 4 := ⟨h.1 0 (by decide), h.2.1.1⟩
theorem RI.nn0 {s : Nat → Int32} (h : RI s) : 0 ≤ s 0 := by rw [h.c0.1]; exact Int32.not_lt.mp (nI_pos i_cl)
def on1 (v : Int32) : Int32 := if v < 1 then 1 else v
/-- WORTH of coin c by a base, a purse, on a day -/
def wo (s : Nat → Int32) (c : Nat) (base purse day : Int32) : Int32 :=
  let pl := on1 (base + LK s (xFa s c base purse day))
  if s (10 + c) = 1 then pl + s (14 + c) / 3
  else if s (10 + c) = 2 then on1 (pl - 1)
  else if s (10 + c) = 3 then on1 (pl - day / 10)
  else if s (10 + c) = 4 then on1 (pl + s (14 + c) / 3 - 2)
  else if s (10 + c) = 5 then (if 5 ≤ day then 1 else on1 (pl - 1))
  else if s (10 + c) = 6 then on1 (pl - day / 10) + s (26 + 4 * c + (day - day / 4 * 4).toNatClampNeg)
  else pl
/-- WORTH of coin c as it is -/
def wc (s : Nat → Int32) (c : Nat) : Int32 := wo s c (s (18 + c)) (s (22 + c)) (s 9)

set_option maxHeartbeats 4000000 in
set_option maxRecDepth 100000 in
theorem r_in {g : xG} {nx : Nat} {sh : Nat → Nat × Nat} {P : Nat → Nat → Option Nat} {I : Nat → Nat → Int32} {v lo hi : Int32} : xMet g Y_M_in 0 0 0 [.int v, .int lo, .int hi] (nx, sh, P, I) (fun r σ => r = some (.int (if lo ≤ v ∧ v ≤ hi then 1 else 0)) ∧ σ = (nx, sh, P, I)) := by
  refine xMet.of [some (.int v), some (.int lo), some (.int hi)] (by decide +kernel) (Nat.le_of_ble_eq_true rfl) rfl ?_
  refine x_iload_n dX11_in_0 rfl ?_
  refine x_iload_n dX11_in_1 rfl ?_
  refine x_icmp_lt (tgt := 14) dX11_in_2 rfl (fun c2 => ?_) (fun c2 => ?_)
  · refine x_iconst (v := 0) dX11_in_14 (by decide) ?_
    refine x_ireturn dX11_in_15 rfl rfl ?_
    exact ⟨by grind, rfl⟩
  · refine x_iload_n dX11_in_5 rfl ?_
    refine x_iload_n dX11_in_6 rfl ?_
    refine x_icmp_gt (tgt := 14) dX11_in_7 rfl (fun c7 => ?_) (fun c7 => ?_)
    · refine x_iconst (v := 0) dX11_in_14 (by decide) ?_
      refine x_ireturn dX11_in_15 rfl rfl ?_
      exact ⟨by grind, rfl⟩
    · refine x_iconst (v := 1) dX11_in_10 (by decide) ?_
      refine x_goto (tgt := 15) dX11_in_11 rfl ?_
      refine x_ireturn dX11_in_15 rfl rfl ?_
      exact ⟨by grind, rfl⟩

set_option maxHeartbeats 4000000 in
set_option maxRecDepth 100000 in
theorem r_one {g : xG} {nx : Nat} {sh : Nat → Nat × Nat} {P : Nat → Nat → Option Nat} {I : Nat → Nat → Int32} {v : Int32} : xMet g Y_M_one 0 0 0 [.int v] (nx, sh, P, I) (fun r σ => r = some (.int (if v < 1 then 1 else v)) ∧ σ = (nx, sh, P, I)) := by
  refine xMet.of [some (.int v)] (by decide +kernel) (Nat.le_of_ble_eq_true rfl) rfl ?_
  refine x_iload_n dX11_one_0 rfl ?_
  refine x_iconst (v := 1) dX11_one_1 (by decide) ?_
  refine x_icmp_ge (tgt := 9) dX11_one_2 rfl (fun c2 => ?_) (fun c2 => ?_)
  · refine x_iload_n dX11_one_9 rfl ?_
    refine x_ireturn dX11_one_10 rfl nb_int ?_
    exact ⟨by grind, rfl⟩
  · refine x_iconst (v := 1) dX11_one_5 (by decide) ?_
    refine x_goto (tgt := 10) dX11_one_6 rfl ?_
    refine x_ireturn dX11_one_10 rfl nb_int ?_
    exact ⟨by grind, rfl⟩

set_option maxHeartbeats 4000000 in
set_option maxRecDepth 100000 in
theorem r_isCoin {g : xG} {nx : Nat} {sh : Nat → Nat × Nat} {P : Nat → Nat → Option Nat} {I : Nat → Nat → Int32} (hx : xFx sh P) {c : Int32} (h0 : 0 ≤ I 128 0) : xMet g Y_M_isCoin 1 0 0 [.ref 127, .int c] (nx, sh, P, I) (fun r σ => r = some (.int (if 0 ≤ c ∧ c < I 128 0 then 1 else 0)) ∧ σ = (nx, sh, P, I)) := by
  refine xMet.of [some (.ref 127), some (.int c)] (by decide +kernel) (Nat.le_of_ble_eq_true rfl) rfl ?_
  refine x_iload_n dX11_isCoin_0 rfl ?_
  refine x_iconst (v := 0) dX11_isCoin_1 (by decide) ?_
  refine x_aload_n dX11_isCoin_2 rfl ?_
  refine y_getr dX11_isCoin_3 F_M_9 (fxo_127 hx) rfl (fxp_127_1 hx) ?_
  refine x_iconst (v := 0) dX11_isCoin_6 (by decide) ?_
  refine y_iaload dX11_isCoin_7 (fxk_128 hx) (vi (j := 0) rfl (by decide) (by decide)) (rI (j := 0) rfl rfl) ?_
  refine x_iconst (v := 1) dX11_isCoin_8 (by decide) ?_
  refine x_isub dX11_isCoin_9 ?_
  refine x_callS (k2 := 0) (n2 := 0) dX11_isCoin_10 LS_M_65 r_in rfl rfl (Nat.le_of_ble_eq_true rfl) (Nat.le_of_ble_eq_true rfl) (Nat.le_of_ble_eq_true rfl) (Nat.le_of_ble_eq_true rfl) ?_
  rintro _ _ ⟨rfl, rfl⟩
  refine x_ireturn dX11_isCoin_13 rfl nb_b ?_
  exact ⟨by have h9 := h0; grind, rfl⟩

set_option maxHeartbeats 4000000 in
set_option maxRecDepth 100000 in
theorem r_tellsOf {g : xG} {nx : Nat} {sh : Nat → Nat × Nat} {P : Nat → Nat → Option Nat} {I : Nat → Nat → Int32} (hx : xFx sh P) {w : Nat} {v : Int32} (hw : w ≤ 900) (h8 : xHd (I 128)) : xMet g Y_M_tellsOf 0 0 0 [.ref 127, .int (nI w), .int v] (nx, sh, P, I) (fun r σ => r = some (.int (tlO (I 128) w v)) ∧ σ = (nx, sh, P, I)) := by
  refine xMet.of [some (.ref 127), some (.int (nI w)), some (.int v)] (by decide +kernel) (Nat.le_of_ble_eq_true rfl) rfl ?_
  refine x_aload_n dX11_tellsOf_0 rfl ?_
  refine y_getr dX11_tellsOf_1 F_M_9 (fxo_127 hx) rfl (fxp_127_1 hx) ?_
  refine x_bipush (v := 8) dX11_tellsOf_4 (by decide) ?_
  refine y_iaload dX11_tellsOf_6 (fxk_128 hx) (vi (j := 8) rfl (by decide) (by decide)) (rI (j := 8) rfl rfl) ?_
  refine x_iconst (v := (-1)) dX11_tellsOf_7 (by decide) ?_
  refine x_icmp_ne (tgt := 15) dX11_tellsOf_8 rfl (fun c8 => ?_) (fun c8 => ?_)
  · obtain ⟨a, ha, hs8⟩ : ∃ a, a < 5 ∧ I 128 8 = nI a := h8.elim (fun z => absurd z c8) id
    refine x_aload_n dX11_tellsOf_15 rfl ?_
    refine y_getr dX11_tellsOf_16 F_M_9 (fxo_127 hx) rfl (fxp_127_1 hx) ?_
    refine x_iload_n dX11_tellsOf_19 rfl ?_
    refine x_aload_n dX11_tellsOf_20 rfl ?_
    refine y_getr dX11_tellsOf_21 F_M_9 (fxo_127 hx) rfl (fxp_127_1 hx) ?_
    refine x_bipush (v := 8) dX11_tellsOf_24 (by decide) ?_
    refine y_iaload dX11_tellsOf_26 (fxk_128 hx) (vi (j := 8) rfl (by decide) (by decide)) (rI (j := 8) rfl rfl) ?_
    refine x_iadd dX11_tellsOf_27 ?_
    refine y_iaload dX11_tellsOf_28 (fxk_128 hx) (vi (j := w + a) (by rw [hs8]; exact nI_add w a) (by omega) (by decide)) (rI (ci (by rw [hs8]; exact nI_add w a) (by omega)) rfl) ?_
    refine x_ireturn dX11_tellsOf_29 rfl nb_int ?_
    first | exact ⟨by unfold tlO; rw [if_pos c8], rfl⟩ | exact ⟨by unfold tlO; rw [if_neg c8, hs8, nI_clamp (by omega)], rfl⟩
  · refine x_iload_n dX11_tellsOf_11 rfl ?_
    refine x_goto (tgt := 29) dX11_tellsOf_12 rfl ?_
    refine x_ireturn dX11_tellsOf_29 rfl nb_int ?_
    first | exact ⟨by unfold tlO; rw [if_pos c8], rfl⟩ | exact ⟨by unfold tlO; rw [if_neg c8, hs8, nI_clamp (by omega)], rfl⟩

set_option maxHeartbeats 4000000 in
set_option maxRecDepth 100000 in
theorem r_topNow {g : xG} {nx : Nat} {sh : Nat → Nat × Nat} {P : Nat → Nat → Option Nat} {I : Nat → Nat → Int32} (hx : xFx sh P) (h8 : xHd (I 128)) : xMet g Y_M_topNow 1 0 0 [.ref 127] (nx, sh, P, I) (fun r σ => r = some (.int (tpN (I 128))) ∧ σ = (nx, sh, P, I)) := by
  refine xMet.of [some (.ref 127), none] (by decide +kernel) (Nat.le_of_ble_eq_true rfl) rfl ?_
  refine x_aload_n dX11_topNow_0 rfl ?_
  refine x_sipush (v := 217) dX11_topNow_1 (by decide) ?_
  refine x_bipush (v := 9) dX11_topNow_4 (by decide) ?_
  refine x_callV (k2 := 0) (n2 := 0) dX11_topNow_6 LV_M_147 (r_tellsOf (w := 217) hx (by decide) h8) rfl rfl (fxo_127 hx) rfl (Nat.le_of_ble_eq_true rfl) (Nat.le_of_ble_eq_true rfl) (Nat.le_of_ble_eq_true rfl) (Nat.le_of_ble_eq_true rfl) ?_
  rintro _ _ ⟨rfl, rfl⟩
  refine x_istore_n dX11_topNow_9 (Nat.le_of_ble_eq_true rfl) ?_
  try simp only [xst, xst2, xclr, xset, xwide]
  refine x_iload_n dX11_topNow_10 rfl ?_
  refine x_iconst (v := 1) dX11_topNow_11 (by decide) ?_
  refine x_icmp_ge (tgt := 19) dX11_topNow_12 rfl (fun c12 => ?_) (fun c12 => ?_)
  · refine x_iload_n dX11_topNow_19 rfl ?_
    refine x_bipush (v := 9) dX11_topNow_20 (by decide) ?_
    refine x_icmp_le (tgt := 30) dX11_topNow_22 rfl (fun c22 => ?_) (fun c22 => ?_)
    · refine x_iload_n dX11_topNow_30 rfl ?_
      refine x_ireturn dX11_topNow_31 rfl nb_int ?_
      exact ⟨by unfold tpN; grind, rfl⟩
    · refine x_bipush (v := 9) dX11_topNow_25 (by decide) ?_
      refine x_goto (tgt := 31) dX11_topNow_27 rfl ?_
      refine x_ireturn dX11_topNow_31 rfl nb_int ?_
      exact ⟨by unfold tpN; grind, rfl⟩
  · refine x_iconst (v := 1) dX11_topNow_15 (by decide) ?_
    refine x_goto (tgt := 31) dX11_topNow_16 rfl ?_
    refine x_ireturn dX11_topNow_31 rfl nb_int ?_
    exact ⟨by unfold tpN; grind, rfl⟩

set_option maxHeartbeats 4000000 in
set_option maxRecDepth 100000 in
theorem r_cheatNow {g : xG} {nx : Nat} {sh : Nat → Nat × Nat} {P : Nat → Nat → Option Nat} {I : Nat → Nat → Int32} (hx : xFx sh P) (h8 : xHd (I 128)) : xMet g Y_M_cheatNow 1 0 0 [.ref 127] (nx, sh, P, I) (fun r σ => r = some (.int (tlO (I 128) 222 0)) ∧ σ = (nx, sh, P, I)) := by
  refine xMet.of [some (.ref 127)] (by decide +kernel) (Nat.le_of_ble_eq_true rfl) rfl ?_
  refine x_aload_n dX11_cheatNow_0 rfl ?_
  refine x_sipush (v := 222) dX11_cheatNow_1 (by decide) ?_
  refine x_iconst (v := 0) dX11_cheatNow_4 (by decide) ?_
  refine x_callV (k2 := 0) (n2 := 0) dX11_cheatNow_5 LV_M_147 (r_tellsOf (w := 222) hx (by decide) h8) rfl rfl (fxo_127 hx) rfl (Nat.le_of_ble_eq_true rfl) (Nat.le_of_ble_eq_true rfl) (Nat.le_of_ble_eq_true rfl) (Nat.le_of_ble_eq_true rfl) ?_
  rintro _ _ ⟨rfl, rfl⟩
  refine x_ireturn dX11_cheatNow_8 rfl nb_int ?_
  exact ⟨rfl, rfl⟩

theorem lkE_cong {p f f' : Nat → Int32} (h : ∀ j, j < 6 → f j = f' j) : ∀ (n i d : Nat) (st : List Bool) (sum : Int32), lkV p n i d → lkE p f n i st sum = lkE p f' n i st sum
  | 0, _, _, _, _, _ => rfl
  | n + 1, i, d, st, sum, hv => by
    unfold lkV at hv
    unfold lkE
    by_cases h1 : 0 ≤ p i
    · rw [if_pos h1] at hv ⊢
      rw [if_pos h1]
      obtain ⟨⟨w, hw, hwx⟩, -, hv⟩ := hv
      have e : lkT f (p i) = lkT f' (p i) := by unfold lkT; rw [hwx, nI_clamp (by omega), h w hw]
      rw [e]
      exact lkE_cong h n _ _ _ _ hv
    · rw [if_neg h1] at hv ⊢
      rw [if_neg h1]
      by_cases h2 : p i = -1
      · rw [if_pos h2] at hv ⊢
        rw [if_pos h2]
        match st with
        | [] => rfl
        | b :: r => exact lkE_cong h n _ _ _ _ hv.2
      · rw [if_neg h2] at hv ⊢
        rw [if_neg h2]
        by_cases h3 : -10 < p i
        · rw [if_pos h3] at hv ⊢
          rw [if_pos h3]
          match st with
          | [] => rfl
          | [b] => rfl
          | b :: c :: r => exact lkE_cong h n _ _ _ _ hv.2
        · rw [if_neg h3] at hv ⊢
          rw [if_neg h3]
          match st with
          | [] => rfl
          | b :: r => exact lkE_cong h n _ _ _ _ hv.2
theorem LK_cong {s f f' : Nat → Int32} (hs : xLw s) (h : ∀ j, j < 6 → f j = f' j) : LK s f = LK s f' := by
  rcases hs with hs | ⟨a, mm, h1, h2, h3, h4, h5⟩
  · unfold LK; rw [if_pos hs, if_pos hs]
  · have hn : ¬ s 8 = -1 := by rw [h2]; intro z; have := nI_pos (n := a) (by omega); rw [z] at this; exact this (by decide)
    unfold LK
    rw [if_neg hn, if_neg hn, h2, nI_clamp (by omega), h3, nI_clamp (by omega)]
    exact lkE_cong h _ _ _ _ _ h5

set_option maxHeartbeats 800000 in
set_option maxRecDepth 100000 in
theorem r_looks {g : xG} {nx : Nat} {sh : Nat → Nat × Nat} {P : Nat → Nat → Option Nat} {I : Nat → Nat → Int32} (hx : xFx sh P) {c : Nat} {base : Int32} (hc : c < 4) (hLv : xLw (I 128)) : xMet g Y_M_looks 1 0 0 [.ref 127, .int (nI c), .int base] (nx, sh, P, I) (fun r σ => ∃ I1 : Nat → Nat → Int32, r = some (.int (LK (I 128) (xFa (I 128) c base (I 128 (22 + c)) (I 128 9)))) ∧ σ = (nx, sh, P, I1) ∧ xFrm [130, 131] I I1) := by
  refine xMet.of [some (.ref 127), some (.int (nI c)), some (.int base), none, none, none, none, none, none, none, none, none] (by decide +kernel) (Nat.le_of_ble_eq_true rfl) rfl ?_
  refine x_aload_n dX11_looks_0 rfl ?_
  refine y_getr dX11_looks_1 F_M_18 (fxo_127 hx) rfl (fxp_127_9 hx) ?_
  refine x_iconst (v := 0) dX11_looks_4 (by decide) ?_
  refine x_iload_n dX11_looks_5 rfl ?_
  refine y_iastore dX11_looks_6 (fxk_130 hx) (vi (j := 0) rfl (by decide) (by decide)) (ci (j := 0) rfl (by decide)) ?_
  rw [xup_va]
  refine x_aload_n dX11_looks_7 rfl ?_
  refine y_getr dX11_looks_8 F_M_18 (fxo_127 hx) rfl (fxp_127_9 hx) ?_
  refine x_iconst (v := 1) dX11_looks_11 (by decide) ?_
  refine x_aload_n dX11_looks_12 rfl ?_
  refine y_getr dX11_looks_13 F_M_9 (fxo_127 hx) rfl (fxp_127_1 hx) ?_
  refine x_bipush (v := 10) dX11_looks_16 (by decide) ?_
  refine x_iload_n dX11_looks_18 rfl ?_
  refine x_iadd dX11_looks_19 ?_
  refine y_iaload dX11_looks_20 (fxk_128 hx) (vi (nI_add 10 c) (by omega) (by decide)) (rI (ci (nI_add 10 c) (by omega)) (rdn (by decide))) ?_
  refine y_iastore dX11_looks_21 (fxk_130 hx) (vi (j := 1) rfl (by decide) (by decide)) (ci (j := 1) rfl (by decide)) ?_
  rw [xup_row]
  refine x_aload_n dX11_looks_22 rfl ?_
  refine y_getr dX11_looks_23 F_M_18 (fxo_127 hx) rfl (fxp_127_9 hx) ?_
  refine x_iconst (v := 2) dX11_looks_26 (by decide) ?_
  refine x_aload_n dX11_looks_27 rfl ?_
  refine y_getr dX11_looks_28 F_M_9 (fxo_127 hx) rfl (fxp_127_1 hx) ?_
  refine x_bipush (v := 14) dX11_looks_31 (by decide) ?_
  refine x_iload_n dX11_looks_33 rfl ?_
  refine x_iadd dX11_looks_34 ?_
  refine y_iaload dX11_looks_35 (fxk_128 hx) (vi (nI_add 14 c) (by omega) (by decide)) (rI (ci (nI_add 14 c) (by omega)) (rdn (by decide))) ?_
  refine y_iastore dX11_looks_36 (fxk_130 hx) (vi (j := 2) rfl (by decide) (by decide)) (ci (j := 2) rfl (by decide)) ?_
  rw [xup_row]
  refine x_aload_n dX11_looks_37 rfl ?_
  refine y_getr dX11_looks_38 F_M_18 (fxo_127 hx) rfl (fxp_127_9 hx) ?_
  refine x_iconst (v := 3) dX11_looks_41 (by decide) ?_
  refine x_iload_n dX11_looks_42 rfl ?_
  refine y_iastore dX11_looks_43 (fxk_130 hx) (vi (j := 3) rfl (by decide) (by decide)) (ci (j := 3) rfl (by decide)) ?_
  rw [xup_row]
  refine x_aload_n dX11_looks_44 rfl ?_
  refine y_getr dX11_looks_45 F_M_18 (fxo_127 hx) rfl (fxp_127_9 hx) ?_
  refine x_iconst (v := 4) dX11_looks_48 (by decide) ?_
  refine x_aload_n dX11_looks_49 rfl ?_
  refine y_getr dX11_looks_50 F_M_9 (fxo_127 hx) rfl (fxp_127_1 hx) ?_
  refine x_bipush (v := 9) dX11_looks_53 (by decide) ?_
  refine y_iaload dX11_looks_55 (fxk_128 hx) (vi (j := 9) rfl (by decide) (by decide)) (rI (j := 9) rfl (rdn (by decide))) ?_
  refine x_bipush (v := 10) dX11_looks_56 (by decide) ?_
  refine x_irem dX11_looks_58 (by decide) ?_
  refine y_iastore dX11_looks_59 (fxk_130 hx) (vi (j := 4) rfl (by decide) (by decide)) (ci (j := 4) rfl (by decide)) ?_
  rw [xup_row]
  refine x_aload_n dX11_looks_60 rfl ?_
  refine y_getr dX11_looks_61 F_M_18 (fxo_127 hx) rfl (fxp_127_9 hx) ?_
  refine x_iconst (v := 5) dX11_looks_64 (by decide) ?_
  refine x_aload_n dX11_looks_65 rfl ?_
  refine y_getr dX11_looks_66 F_M_9 (fxo_127 hx) rfl (fxp_127_1 hx) ?_
  refine x_bipush (v := 22) dX11_looks_69 (by decide) ?_
  refine x_iload_n dX11_looks_71 rfl ?_
  refine x_iadd dX11_looks_72 ?_
  refine y_iaload dX11_looks_73 (fxk_128 hx) (vi (nI_add 22 c) (by omega) (by decide)) (rI (ci (nI_add 22 c) (by omega)) (rdn (by decide))) ?_
  refine y_iastore dX11_looks_74 (fxk_130 hx) (vi (j := 5) rfl (by decide) (by decide)) (ci (j := 5) rfl (by decide)) ?_
  rw [xup_row]
  obtain ⟨B, hB, eB⟩ : ∃ B : Nat → Int32, (∀ j, j < 6 → B j = xFa (I 128) c base (I 128 (22 + c)) (I 128 9) j) ∧ upd (upd (upd (upd (upd (upd (I 130) 0 (nI c)) 1 (I 128 (10 + c))) 2 (I 128 (14 + c))) 3 base) 4 (I 128 9 - I 128 9 / 10 * 10)) 5 (I 128 (22 + c)) = B := by
    refine ⟨_, ?_, rfl⟩
    intro j hj
    match j, hj with
    | 0, _ => rfl
    | 1, _ => rfl
    | 2, _ => rfl
    | 3, _ => rfl
    | 4, _ => rfl
    | 5, _ => rfl
  rw [eB]
  obtain ⟨I1, hI1⟩ : ∃ I1, I1 = va_up I 130 B := ⟨_, rfl⟩
  refine y_st (I' := I1) hI1.symm ?_
  have e128 : I1 128 = I 128 := by rw [hI1]; exact va_up_no (by decide)
  have e130 : I1 130 = B := by rw [hI1]; exact va_up_at
  have e131 : I1 131 = I 131 := by rw [hI1]; exact va_up_no (by decide)
  refine x_iconst (v := 0) dX11_looks_75 (by decide) ?_
  refine x_istore_n dX11_looks_76 (Nat.le_of_ble_eq_true rfl) ?_
  try simp only [xst, xst2, xclr, xset, xwide]
  refine x_aload_n dX11_looks_77 rfl ?_
  refine x_sipush (v := 227) dX11_looks_78 (by decide) ?_
  refine x_iconst (v := 0) dX11_looks_81 (by decide) ?_
  refine x_callV (k2 := 0) (n2 := 0) dX11_looks_82 LV_M_147 (r_tellsOf (I := I1) (w := 227) hx (by decide) (by rw [e128]; exact hLv.hd)) rfl rfl (fxo_127 hx) rfl (Nat.le_of_ble_eq_true rfl) (Nat.le_of_ble_eq_true rfl) (Nat.le_of_ble_eq_true rfl) (Nat.le_of_ble_eq_true rfl) ?_
  rintro _ _ ⟨rfl, rfl⟩
  refine x_istore dX11_looks_85 (Nat.le_of_ble_eq_true rfl) ?_
  try simp only [xst, xst2, xclr, xset, xwide]
  refine x_sipush (v := 232) dX11_looks_87 (by decide) ?_
  refine x_sipush (v := 140) dX11_looks_90 (by decide) ?_
  refine x_aload_n dX11_looks_93 rfl ?_
  refine y_getr dX11_looks_94 F_M_9 (fxo_127 hx) rfl (fxp_127_1 hx) ?_
  refine x_bipush (v := 8) dX11_looks_97 (by decide) ?_
  refine y_iaload dX11_looks_99 (fxk_128 hx) (vi (j := 8) rfl (by decide) (by decide)) (rI (j := 8) rfl (congrFun e128 8)) ?_
  refine x_imul dX11_looks_100 ?_
  refine x_iadd dX11_looks_101 ?_
  obtain ⟨a, mm, hmm, htl, hfr, hV, hLK⟩ : ∃ a mm : Nat, mm ≤ 140 ∧ tlO (I1 128) 227 0 = nI mm ∧ (232 : Int32) + 140 * I 128 8 = nI a ∧ (a + mm ≤ 932 ∧ lkV (fun i => I 128 (a + i)) mm 0 0) ∧ LK (I 128) B = lkE (fun i => I 128 (a + i)) B mm 0 [] 0 := by
    rw [e128]
    rcases hLv with h | ⟨a, mm, h1, h2, h3, h4, h5⟩
    · exact ⟨92, 0, by omega, by unfold tlO; rw [if_pos h]; rfl, by rw [h]; rfl, ⟨by omega, trivial⟩, by unfold LK; rw [if_pos h]; rfl⟩
    · have hn : ¬ I 128 8 = -1 := by rw [h2]; intro z; have := nI_pos (n := a) (by omega); rw [z] at this; exact this (by decide)
      refine ⟨232 + 140 * a, mm, h4, by unfold tlO; rw [if_neg hn, h2, nI_clamp (by omega)]; exact h3, by rw [h2]; exact (congrArg (nI 232 + ·) (pk_mul 140 a)).trans (nI_add _ _), ⟨by omega, h5⟩, ?_⟩
      unfold LK
      rw [if_neg hn, h2, nI_clamp (by omega), h3, nI_clamp (by omega)]
  rw [htl, hfr]
  have hBf : ∀ w, w < 6 → B w = B w := fun _ _ => rfl
  refine x_istore dX11_looks_102 (Nat.le_of_ble_eq_true rfl) ?_
  try simp only [xst, xst2, xclr, xset, xwide]
  refine y_st (I' := va_up I1 131 (I 131)) (by rw [← e131]; exact va_up_id.symm) ?_
  refine x_iconst (v := 0) dX11_looks_104 (by decide) ?_
  refine x_istore dX11_looks_105 (Nat.le_of_ble_eq_true rfl) ?_
  try simp only [xst, xst2, xclr, xset, xwide]
  refine x_iload dX11_looks_107 rfl ?_
  refine x_istore dX11_looks_109 (Nat.le_of_ble_eq_true rfl) ?_
  try simp only [xst, xst2, xclr, xset, xwide]
  have K111 : ∀ (fuel : Nat) (i r : Nat) (st : List Bool) (sum : Int32) (t : Nat → Int32) (v8 v9 v10 v11 : Option Value) (hi : i + r = mm) (hv : lkV (fun i => I 128 (a + i)) r i st.length) (hE : lkE (fun i => I 128 (a + i)) B r i st sum = LK (I 128) B) (hp : xPi t st) (hst : st.length ≤ 64), r < fuel → xX g Y_M_looks 1 0 0 (fun r σ => ∃ I1 : Nat → Nat → Int32, r = some (.int (LK (I 128) (xFa (I 128) c base (I 128 (22 + c)) (I 128 9)))) ∧ σ = (nx, sh, P, I1) ∧ xFrm [130, 131] I I1) 111 [some (.ref 127), some (.int (nI c)), some (.int base), some (.int sum), some (.int (nI mm)), some (.int (nI a)), some (.int (nI st.length)), some (.int (nI (a + i))), v8, v9, v10, v11] [] (nx, sh, P, va_up I1 131 t) := by
    intro fuel
    induction fuel with
    | zero => intro i r st sum t v8 v9 v10 v11 hi hv hE hp hst hm; exact absurd hm (Nat.not_lt_zero _)
    | succ fuel ih111 =>
      intro i r st sum t v8 v9 v10 v11 hi hv hE hp hst hm
      refine x_iload dX11_looks_111 rfl ?_
      refine x_iload dX11_looks_113 rfl ?_
      refine x_iload dX11_looks_115 rfl ?_
      refine x_iadd dX11_looks_117 ?_
      rw [nI_add a mm]
      refine x_icmp_ge (tgt := 418) dX11_looks_118 rfl (fun c118 => ?_) (fun c118 => ?_)
      · have hr0 : r = 0 := by have := cge_t (i := a + i) (m := a + mm) (by omega) (by omega) c118; omega
        subst hr0
        refine x_iload_n dX11_looks_418 rfl ?_
        refine x_ireturn dX11_looks_419 rfl nb_int ?_
        exact ⟨_, by have hE3 : sum = LK (I 128) B := hE; rw [hE3, LK_cong hLv hB], rfl, fun b hb => by rw [hI1]; exact (va_up_no (fun z => hb (by rw [z]; decide))).trans (va_up_no (fun z => hb (by rw [z]; decide)))⟩
      · obtain ⟨r, rfl⟩ : ∃ q, r = q + 1 := ⟨r - 1, by have := cge_f (i := a + i) (m := a + mm) (by omega) (by omega) c118; omega⟩
        obtain ⟨x, hxx⟩ : ∃ x, I 128 (a + i) = x := ⟨_, rfl⟩
        have hv2 := hv
        have hE2 := hE
        unfold lkV at hv2
        unfold lkE at hE2
        simp only [hxx] at hv2 hE2
        refine x_aload_n dX11_looks_121 rfl ?_
        refine y_getr dX11_looks_122 F_M_9 (fxo_127 hx) rfl (fxp_127_1 hx) ?_
        refine x_iload dX11_looks_125 rfl ?_
        refine y_iaload dX11_looks_127 (fxk_128 hx) (vi rfl (by omega) (by decide)) ((rI (ci rfl (by omega)) (rdn (by decide))).trans ((congrFun e128 _).trans hxx)) ?_
        refine x_istore dX11_looks_128 (Nat.le_of_ble_eq_true rfl) ?_
        try simp only [xst, xst2, xclr, xset, xwide]
        refine x_iload dX11_looks_130 rfl ?_
        refine x_if_lt (tgt := 229) dX11_looks_132 rfl (fun c132 => ?_) (fun c132 => ?_)
        · refine x_iload dX11_looks_229 rfl ?_
          refine x_iconst (v := (-1)) dX11_looks_231 (by decide) ?_
          refine x_icmp_ne (tgt := 264) dX11_looks_232 rfl (fun c232 => ?_) (fun c232 => ?_)
          · refine x_iload dX11_looks_264 rfl ?_
            refine x_bipush (v := (-10)) dX11_looks_266 (by decide) ?_
            refine x_icmp_le (tgt := 350) dX11_looks_268 rfl (fun c268 => ?_) (fun c268 => ?_)
            · rw [if_neg (Int32.not_le.mpr c132), if_neg c232, if_neg (Int32.not_lt.mpr c268)] at hv2 hE2
              obtain ⟨hd1, hv3⟩ := hv2
              obtain ⟨b, rfl⟩ : ∃ b, st = [b] := by
                match st, hd1 with
                | [b], _ => exact ⟨b, rfl⟩
              have hE2 : lkE (fun i => I 128 (a + i)) B r (i + 1) [] (sum + (if b = true ∧ -200 < x then -10 - x else 0) - (if b = true ∧ x ≤ -200 then -200 - x else 0)) = LK (I 128) B := hE2
              obtain ⟨hb1, -⟩ := hp
              refine x_iconst (v := 0) dX11_looks_350 (by decide) ?_
              refine x_istore dX11_looks_351 (Nat.le_of_ble_eq_true rfl) ?_
              try simp only [xst, xst2, xclr, xset, xwide]
              refine x_aload_n dX11_looks_353 rfl ?_
              refine y_getr dX11_looks_354 F_M_21 (fxo_127 hx) rfl (fxp_127_10 hx) ?_
              refine x_iconst (v := 0) dX11_looks_357 (by decide) ?_
              refine y_zaload dX11_looks_358 (fxk_131 hx) (vi (j := 0) rfl (by decide) (by decide)) ((rI (j := 0) rfl (congrFun va_up_at _)).trans hb1) ?_
              refine x_istore dX11_looks_359 (Nat.le_of_ble_eq_true rfl) ?_
              try simp only [xst, xst2, xclr, xset, xwide]
              refine x_iload_n dX11_looks_361 rfl ?_
              refine x_iload dX11_looks_362 rfl ?_
              refine x_if_eq (tgt := 383) dX11_looks_364 rfl (fun c364 => ?_) (fun c364 => ?_)
              · refine x_iconst (v := 0) dX11_looks_383 (by decide) ?_
                refine x_iadd dX11_looks_384 ?_
                refine x_istore_n dX11_looks_385 (Nat.le_of_ble_eq_true rfl) ?_
                try simp only [xst, xst2, xclr, xset, xwide]
                refine x_iload_n dX11_looks_386 rfl ?_
                refine x_iload dX11_looks_387 rfl ?_
                refine x_if_eq (tgt := 409) dX11_looks_389 rfl (fun c389 => ?_) (fun c389 => ?_)
                · refine x_iconst (v := 0) dX11_looks_409 (by decide) ?_
                  refine x_isub dX11_looks_410 ?_
                  refine x_istore_n dX11_looks_411 (Nat.le_of_ble_eq_true rfl) ?_
                  try simp only [xst, xst2, xclr, xset, xwide]
                  refine x_iinc (v := (nI (a + (i + 1)))) dX11_looks_412 rfl (nI_1 _) (Nat.le_of_ble_eq_true rfl) ?_
                  try simp only [xst, xst2, xclr, xset, xwide]
                  refine x_goto (tgt := 111) dX11_looks_415 rfl ?_
                  first | rw [en_0 c364] at hE2 | rw [en_1 (Int32.not_lt.mpr c372)] at hE2 | rw [en_2 c364 (Int32.not_le.mp c372)] at hE2
                  first | rw [en_0 c389] at hE2 | rw [en_1 (Int32.not_le.mpr c397)] at hE2 | rw [en_2 c389 (Int32.not_lt.mp c397)] at hE2
                  exact ih111 (i + 1) r [] _ _ _ _ _ _ (by omega) hv3 hE2 trivial (by decide) (by omega)
                · refine x_iload dX11_looks_392 rfl ?_
                  refine x_sipush (v := (-200)) dX11_looks_394 (by decide) ?_
                  refine x_icmp_gt (tgt := 409) dX11_looks_397 rfl (fun c397 => ?_) (fun c397 => ?_)
                  · refine x_iconst (v := 0) dX11_looks_409 (by decide) ?_
                    refine x_isub dX11_looks_410 ?_
                    refine x_istore_n dX11_looks_411 (Nat.le_of_ble_eq_true rfl) ?_
                    try simp only [xst, xst2, xclr, xset, xwide]
                    refine x_iinc (v := (nI (a + (i + 1)))) dX11_looks_412 rfl (nI_1 _) (Nat.le_of_ble_eq_true rfl) ?_
                    try simp only [xst, xst2, xclr, xset, xwide]
                    refine x_goto (tgt := 111) dX11_looks_415 rfl ?_
                    first | rw [en_0 c364] at hE2 | rw [en_1 (Int32.not_lt.mpr c372)] at hE2 | rw [en_2 c364 (Int32.not_le.mp c372)] at hE2
                    first | rw [en_0 c389] at hE2 | rw [en_1 (Int32.not_le.mpr c397)] at hE2 | rw [en_2 c389 (Int32.not_lt.mp c397)] at hE2
                    exact ih111 (i + 1) r [] _ _ _ _ _ _ (by omega) hv3 hE2 trivial (by decide) (by omega)
                  · refine x_sipush (v := (-200)) dX11_looks_400 (by decide) ?_
                    refine x_iload dX11_looks_403 rfl ?_
                    refine x_isub dX11_looks_405 ?_
                    refine x_goto (tgt := 410) dX11_looks_406 rfl ?_
                    refine x_isub dX11_looks_410 ?_
                    refine x_istore_n dX11_looks_411 (Nat.le_of_ble_eq_true rfl) ?_
                    try simp only [xst, xst2, xclr, xset, xwide]
                    refine x_iinc (v := (nI (a + (i + 1)))) dX11_looks_412 rfl (nI_1 _) (Nat.le_of_ble_eq_true rfl) ?_
                    try simp only [xst, xst2, xclr, xset, xwide]
                    refine x_goto (tgt := 111) dX11_looks_415 rfl ?_
                    first | rw [en_0 c364] at hE2 | rw [en_1 (Int32.not_lt.mpr c372)] at hE2 | rw [en_2 c364 (Int32.not_le.mp c372)] at hE2
                    first | rw [en_0 c389] at hE2 | rw [en_1 (Int32.not_le.mpr c397)] at hE2 | rw [en_2 c389 (Int32.not_lt.mp c397)] at hE2
                    exact ih111 (i + 1) r [] _ _ _ _ _ _ (by omega) hv3 hE2 trivial (by decide) (by omega)
              · refine x_iload dX11_looks_367 rfl ?_
                refine x_sipush (v := (-200)) dX11_looks_369 (by decide) ?_
                refine x_icmp_le (tgt := 383) dX11_looks_372 rfl (fun c372 => ?_) (fun c372 => ?_)
                · refine x_iconst (v := 0) dX11_looks_383 (by decide) ?_
                  refine x_iadd dX11_looks_384 ?_
                  refine x_istore_n dX11_looks_385 (Nat.le_of_ble_eq_true rfl) ?_
                  try simp only [xst, xst2, xclr, xset, xwide]
                  refine x_iload_n dX11_looks_386 rfl ?_
                  refine x_iload dX11_looks_387 rfl ?_
                  refine x_if_eq (tgt := 409) dX11_looks_389 rfl (fun c389 => ?_) (fun c389 => ?_)
                  · refine x_iconst (v := 0) dX11_looks_409 (by decide) ?_
                    refine x_isub dX11_looks_410 ?_
                    refine x_istore_n dX11_looks_411 (Nat.le_of_ble_eq_true rfl) ?_
                    try simp only [xst, xst2, xclr, xset, xwide]
                    refine x_iinc (v := (nI (a + (i + 1)))) dX11_looks_412 rfl (nI_1 _) (Nat.le_of_ble_eq_true rfl) ?_
                    try simp only [xst, xst2, xclr, xset, xwide]
                    refine x_goto (tgt := 111) dX11_looks_415 rfl ?_
                    first | rw [en_0 c364] at hE2 | rw [en_1 (Int32.not_lt.mpr c372)] at hE2 | rw [en_2 c364 (Int32.not_le.mp c372)] at hE2
                    first | rw [en_0 c389] at hE2 | rw [en_1 (Int32.not_le.mpr c397)] at hE2 | rw [en_2 c389 (Int32.not_lt.mp c397)] at hE2
                    exact ih111 (i + 1) r [] _ _ _ _ _ _ (by omega) hv3 hE2 trivial (by decide) (by omega)
                  · refine x_iload dX11_looks_392 rfl ?_
                    refine x_sipush (v := (-200)) dX11_looks_394 (by decide) ?_
                    refine x_icmp_gt (tgt := 409) dX11_looks_397 rfl (fun c397 => ?_) (fun c397 => ?_)
                    · refine x_iconst (v := 0) dX11_looks_409 (by decide) ?_
                      refine x_isub dX11_looks_410 ?_
                      refine x_istore_n dX11_looks_411 (Nat.le_of_ble_eq_true rfl) ?_
                      try simp only [xst, xst2, xclr, xset, xwide]
                      refine x_iinc (v := (nI (a + (i + 1)))) dX11_looks_412 rfl (nI_1 _) (Nat.le_of_ble_eq_true rfl) ?_
                      try simp only [xst, xst2, xclr, xset, xwide]
                      refine x_goto (tgt := 111) dX11_looks_415 rfl ?_
                      first | rw [en_0 c364] at hE2 | rw [en_1 (Int32.not_lt.mpr c372)] at hE2 | rw [en_2 c364 (Int32.not_le.mp c372)] at hE2
                      first | rw [en_0 c389] at hE2 | rw [en_1 (Int32.not_le.mpr c397)] at hE2 | rw [en_2 c389 (Int32.not_lt.mp c397)] at hE2
                      exact ih111 (i + 1) r [] _ _ _ _ _ _ (by omega) hv3 hE2 trivial (by decide) (by omega)
                    · refine x_sipush (v := (-200)) dX11_looks_400 (by decide) ?_
                      refine x_iload dX11_looks_403 rfl ?_
                      refine x_isub dX11_looks_405 ?_
                      refine x_goto (tgt := 410) dX11_looks_406 rfl ?_
                      refine x_isub dX11_looks_410 ?_
                      refine x_istore_n dX11_looks_411 (Nat.le_of_ble_eq_true rfl) ?_
                      try simp only [xst, xst2, xclr, xset, xwide]
                      refine x_iinc (v := (nI (a + (i + 1)))) dX11_looks_412 rfl (nI_1 _) (Nat.le_of_ble_eq_true rfl) ?_
                      try simp only [xst, xst2, xclr, xset, xwide]
                      refine x_goto (tgt := 111) dX11_looks_415 rfl ?_
                      first | rw [en_0 c364] at hE2 | rw [en_1 (Int32.not_lt.mpr c372)] at hE2 | rw [en_2 c364 (Int32.not_le.mp c372)] at hE2
                      first | rw [en_0 c389] at hE2 | rw [en_1 (Int32.not_le.mpr c397)] at hE2 | rw [en_2 c389 (Int32.not_lt.mp c397)] at hE2
                      exact ih111 (i + 1) r [] _ _ _ _ _ _ (by omega) hv3 hE2 trivial (by decide) (by omega)
                · refine x_bipush (v := (-10)) dX11_looks_375 (by decide) ?_
                  refine x_iload dX11_looks_377 rfl ?_
                  refine x_isub dX11_looks_379 ?_
                  refine x_goto (tgt := 384) dX11_looks_380 rfl ?_
                  refine x_iadd dX11_looks_384 ?_
                  refine x_istore_n dX11_looks_385 (Nat.le_of_ble_eq_true rfl) ?_
                  try simp only [xst, xst2, xclr, xset, xwide]
                  refine x_iload_n dX11_looks_386 rfl ?_
                  refine x_iload dX11_looks_387 rfl ?_
                  refine x_if_eq (tgt := 409) dX11_looks_389 rfl (fun c389 => ?_) (fun c389 => ?_)
                  · refine x_iconst (v := 0) dX11_looks_409 (by decide) ?_
                    refine x_isub dX11_looks_410 ?_
                    refine x_istore_n dX11_looks_411 (Nat.le_of_ble_eq_true rfl) ?_
                    try simp only [xst, xst2, xclr, xset, xwide]
                    refine x_iinc (v := (nI (a + (i + 1)))) dX11_looks_412 rfl (nI_1 _) (Nat.le_of_ble_eq_true rfl) ?_
                    try simp only [xst, xst2, xclr, xset, xwide]
                    refine x_goto (tgt := 111) dX11_looks_415 rfl ?_
                    first | rw [en_0 c364] at hE2 | rw [en_1 (Int32.not_lt.mpr c372)] at hE2 | rw [en_2 c364 (Int32.not_le.mp c372)] at hE2
                    first | rw [en_0 c389] at hE2 | rw [en_1 (Int32.not_le.mpr c397)] at hE2 | rw [en_2 c389 (Int32.not_lt.mp c397)] at hE2
                    exact ih111 (i + 1) r [] _ _ _ _ _ _ (by omega) hv3 hE2 trivial (by decide) (by omega)
                  · refine x_iload dX11_looks_392 rfl ?_
                    refine x_sipush (v := (-200)) dX11_looks_394 (by decide) ?_
                    refine x_icmp_gt (tgt := 409) dX11_looks_397 rfl (fun c397 => ?_) (fun c397 => ?_)
                    · refine x_iconst (v := 0) dX11_looks_409 (by decide) ?_
                      refine x_isub dX11_looks_410 ?_
                      refine x_istore_n dX11_looks_411 (Nat.le_of_ble_eq_true rfl) ?_
                      try simp only [xst, xst2, xclr, xset, xwide]
                      refine x_iinc (v := (nI (a + (i + 1)))) dX11_looks_412 rfl (nI_1 _) (Nat.le_of_ble_eq_true rfl) ?_
                      try simp only [xst, xst2, xclr, xset, xwide]
                      refine x_goto (tgt := 111) dX11_looks_415 rfl ?_
                      first | rw [en_0 c364] at hE2 | rw [en_1 (Int32.not_lt.mpr c372)] at hE2 | rw [en_2 c364 (Int32.not_le.mp c372)] at hE2
                      first | rw [en_0 c389] at hE2 | rw [en_1 (Int32.not_le.mpr c397)] at hE2 | rw [en_2 c389 (Int32.not_lt.mp c397)] at hE2
                      exact ih111 (i + 1) r [] _ _ _ _ _ _ (by omega) hv3 hE2 trivial (by decide) (by omega)
                    · refine x_sipush (v := (-200)) dX11_looks_400 (by decide) ?_
                      refine x_iload dX11_looks_403 rfl ?_
                      refine x_isub dX11_looks_405 ?_
                      refine x_goto (tgt := 410) dX11_looks_406 rfl ?_
                      refine x_isub dX11_looks_410 ?_
                      refine x_istore_n dX11_looks_411 (Nat.le_of_ble_eq_true rfl) ?_
                      try simp only [xst, xst2, xclr, xset, xwide]
                      refine x_iinc (v := (nI (a + (i + 1)))) dX11_looks_412 rfl (nI_1 _) (Nat.le_of_ble_eq_true rfl) ?_
                      try simp only [xst, xst2, xclr, xset, xwide]
                      refine x_goto (tgt := 111) dX11_looks_415 rfl ?_
                      first | rw [en_0 c364] at hE2 | rw [en_1 (Int32.not_lt.mpr c372)] at hE2 | rw [en_2 c364 (Int32.not_le.mp c372)] at hE2
                      first | rw [en_0 c389] at hE2 | rw [en_1 (Int32.not_le.mpr c397)] at hE2 | rw [en_2 c389 (Int32.not_lt.mp c397)] at hE2
                      exact ih111 (i + 1) r [] _ _ _ _ _ _ (by omega) hv3 hE2 trivial (by decide) (by omega)
            · rw [if_neg (Int32.not_le.mpr c132), if_neg c232, if_pos (Int32.not_le.mp c268)] at hv2 hE2
              obtain ⟨hd1, hv3⟩ := hv2
              obtain ⟨b, b2, st, rfl⟩ : ∃ b b2 r, st = b :: b2 :: r := by
                match st, hd1 with
                | b :: b2 :: r, _ => exact ⟨b, b2, r, rfl⟩
              have hE2 : lkE (fun i => I 128 (a + i)) B r (i + 1) ((if x = -2 then b2 && b else b2 || b) :: st) sum = LK (I 128) B := hE2
              simp only [List.length_cons] at hst
              have htop : nI (st.length + 1) - 1 = nI st.length := nI_pred _
              obtain ⟨hb1, hb2, hp2⟩ := hp
              refine x_iinc (v := (nI (st.length + 1))) dX11_looks_271 rfl (i_m1.trans (nI_pred _)) (Nat.le_of_ble_eq_true rfl) ?_
              try simp only [xst, xst2, xclr, xset, xwide]
              refine x_aload_n dX11_looks_274 rfl ?_
              refine y_getr dX11_looks_275 F_M_21 (fxo_127 hx) rfl (fxp_127_10 hx) ?_
              refine x_iload dX11_looks_278 rfl ?_
              refine x_iconst (v := 1) dX11_looks_280 (by decide) ?_
              refine x_isub dX11_looks_281 ?_
              refine x_iload dX11_looks_282 rfl ?_
              refine x_bipush (v := (-2)) dX11_looks_284 (by decide) ?_
              refine x_icmp_ne (tgt := 319) dX11_looks_286 rfl (fun c286 => ?_) (fun c286 => ?_)
              · refine x_aload_n dX11_looks_319 rfl ?_
                refine y_getr dX11_looks_320 F_M_21 (fxo_127 hx) rfl (fxp_127_10 hx) ?_
                refine x_iload dX11_looks_323 rfl ?_
                refine x_iconst (v := 1) dX11_looks_325 (by decide) ?_
                refine x_isub dX11_looks_326 ?_
                refine y_zaload dX11_looks_327 (fxk_131 hx) (vi htop (by omega) (by decide)) ((rI (ci htop (by omega)) (congrFun va_up_at _)).trans hb2) ?_
                refine x_if_ne (tgt := 341) dX11_looks_328 rfl (fun c328 => ?_) (fun c328 => ?_)
                · refine x_iconst (v := 1) dX11_looks_341 (by decide) ?_
                  refine x_goto (tgt := 346) dX11_looks_342 rfl ?_
                  refine y_zastore dX11_looks_346 (fxk_131 hx) (vi htop (by omega) (by decide)) rfl (ci htop (by omega)) ?_
                  rw [xup_row]
                  refine x_goto (tgt := 412) dX11_looks_347 rfl ?_
                  refine x_iinc (v := (nI (a + (i + 1)))) dX11_looks_412 rfl (nI_1 _) (Nat.le_of_ble_eq_true rfl) ?_
                  try simp only [xst, xst2, xclr, xset, xwide]
                  refine x_goto (tgt := 111) dX11_looks_415 rfl ?_
                  exact ih111 (i + 1) r ((if x = -2 then b2 && b else b2 || b) :: st) sum _ _ _ _ _ (by omega) hv3 hE2 (hp2.put (bb_v (by first | exact Or.inl ⟨c286, Or.inl ⟨bi_f c298, rfl⟩⟩ | exact Or.inl ⟨c286, Or.inr (Or.inl ⟨bi_t c298, bi_f c308, rfl⟩)⟩ | exact Or.inl ⟨c286, Or.inr (Or.inr ⟨bi_t c298, bi_t c308, rfl⟩)⟩ | exact Or.inr ⟨c286, Or.inl ⟨bi_t c328, rfl⟩⟩ | exact Or.inr ⟨c286, Or.inr (Or.inl ⟨bi_f c328, bi_f c338, rfl⟩)⟩ | exact Or.inr ⟨c286, Or.inr (Or.inr ⟨bi_f c328, bi_t c338, rfl⟩)⟩))) (by simp only [List.length_cons] at hst ⊢; omega) (by omega)
                · refine x_aload_n dX11_looks_331 rfl ?_
                  refine y_getr dX11_looks_332 F_M_21 (fxo_127 hx) rfl (fxp_127_10 hx) ?_
                  refine x_iload dX11_looks_335 rfl ?_
                  refine y_zaload dX11_looks_337 (fxk_131 hx) (vi rfl (by omega) (by decide)) ((rI (ci rfl (by omega)) (congrFun va_up_at _)).trans hb1) ?_
                  refine x_if_eq (tgt := 345) dX11_looks_338 rfl (fun c338 => ?_) (fun c338 => ?_)
                  · refine x_iconst (v := 0) dX11_looks_345 (by decide) ?_
                    refine y_zastore dX11_looks_346 (fxk_131 hx) (vi htop (by omega) (by decide)) rfl (ci htop (by omega)) ?_
                    rw [xup_row]
                    refine x_goto (tgt := 412) dX11_looks_347 rfl ?_
                    refine x_iinc (v := (nI (a + (i + 1)))) dX11_looks_412 rfl (nI_1 _) (Nat.le_of_ble_eq_true rfl) ?_
                    try simp only [xst, xst2, xclr, xset, xwide]
                    refine x_goto (tgt := 111) dX11_looks_415 rfl ?_
                    exact ih111 (i + 1) r ((if x = -2 then b2 && b else b2 || b) :: st) sum _ _ _ _ _ (by omega) hv3 hE2 (hp2.put (bb_v (by first | exact Or.inl ⟨c286, Or.inl ⟨bi_f c298, rfl⟩⟩ | exact Or.inl ⟨c286, Or.inr (Or.inl ⟨bi_t c298, bi_f c308, rfl⟩)⟩ | exact Or.inl ⟨c286, Or.inr (Or.inr ⟨bi_t c298, bi_t c308, rfl⟩)⟩ | exact Or.inr ⟨c286, Or.inl ⟨bi_t c328, rfl⟩⟩ | exact Or.inr ⟨c286, Or.inr (Or.inl ⟨bi_f c328, bi_f c338, rfl⟩)⟩ | exact Or.inr ⟨c286, Or.inr (Or.inr ⟨bi_f c328, bi_t c338, rfl⟩)⟩))) (by simp only [List.length_cons] at hst ⊢; omega) (by omega)
                  · refine x_iconst (v := 1) dX11_looks_341 (by decide) ?_
                    refine x_goto (tgt := 346) dX11_looks_342 rfl ?_
                    refine y_zastore dX11_looks_346 (fxk_131 hx) (vi htop (by omega) (by decide)) rfl (ci htop (by omega)) ?_
                    rw [xup_row]
                    refine x_goto (tgt := 412) dX11_looks_347 rfl ?_
                    refine x_iinc (v := (nI (a + (i + 1)))) dX11_looks_412 rfl (nI_1 _) (Nat.le_of_ble_eq_true rfl) ?_
                    try simp only [xst, xst2, xclr, xset, xwide]
                    refine x_goto (tgt := 111) dX11_looks_415 rfl ?_
                    exact ih111 (i + 1) r ((if x = -2 then b2 && b else b2 || b) :: st) sum _ _ _ _ _ (by omega) hv3 hE2 (hp2.put (bb_v (by first | exact Or.inl ⟨c286, Or.inl ⟨bi_f c298, rfl⟩⟩ | exact Or.inl ⟨c286, Or.inr (Or.inl ⟨bi_t c298, bi_f c308, rfl⟩)⟩ | exact Or.inl ⟨c286, Or.inr (Or.inr ⟨bi_t c298, bi_t c308, rfl⟩)⟩ | exact Or.inr ⟨c286, Or.inl ⟨bi_t c328, rfl⟩⟩ | exact Or.inr ⟨c286, Or.inr (Or.inl ⟨bi_f c328, bi_f c338, rfl⟩)⟩ | exact Or.inr ⟨c286, Or.inr (Or.inr ⟨bi_f c328, bi_t c338, rfl⟩)⟩))) (by simp only [List.length_cons] at hst ⊢; omega) (by omega)
              · refine x_aload_n dX11_looks_289 rfl ?_
                refine y_getr dX11_looks_290 F_M_21 (fxo_127 hx) rfl (fxp_127_10 hx) ?_
                refine x_iload dX11_looks_293 rfl ?_
                refine x_iconst (v := 1) dX11_looks_295 (by decide) ?_
                refine x_isub dX11_looks_296 ?_
                refine y_zaload dX11_looks_297 (fxk_131 hx) (vi htop (by omega) (by decide)) ((rI (ci htop (by omega)) (congrFun va_up_at _)).trans hb2) ?_
                refine x_if_eq (tgt := 315) dX11_looks_298 rfl (fun c298 => ?_) (fun c298 => ?_)
                · refine x_iconst (v := 0) dX11_looks_315 (by decide) ?_
                  refine x_goto (tgt := 346) dX11_looks_316 rfl ?_
                  refine y_zastore dX11_looks_346 (fxk_131 hx) (vi htop (by omega) (by decide)) rfl (ci htop (by omega)) ?_
                  rw [xup_row]
                  refine x_goto (tgt := 412) dX11_looks_347 rfl ?_
                  refine x_iinc (v := (nI (a + (i + 1)))) dX11_looks_412 rfl (nI_1 _) (Nat.le_of_ble_eq_true rfl) ?_
                  try simp only [xst, xst2, xclr, xset, xwide]
                  refine x_goto (tgt := 111) dX11_looks_415 rfl ?_
                  exact ih111 (i + 1) r ((if x = -2 then b2 && b else b2 || b) :: st) sum _ _ _ _ _ (by omega) hv3 hE2 (hp2.put (bb_v (by first | exact Or.inl ⟨c286, Or.inl ⟨bi_f c298, rfl⟩⟩ | exact Or.inl ⟨c286, Or.inr (Or.inl ⟨bi_t c298, bi_f c308, rfl⟩)⟩ | exact Or.inl ⟨c286, Or.inr (Or.inr ⟨bi_t c298, bi_t c308, rfl⟩)⟩ | exact Or.inr ⟨c286, Or.inl ⟨bi_t c328, rfl⟩⟩ | exact Or.inr ⟨c286, Or.inr (Or.inl ⟨bi_f c328, bi_f c338, rfl⟩)⟩ | exact Or.inr ⟨c286, Or.inr (Or.inr ⟨bi_f c328, bi_t c338, rfl⟩)⟩))) (by simp only [List.length_cons] at hst ⊢; omega) (by omega)
                · refine x_aload_n dX11_looks_301 rfl ?_
                  refine y_getr dX11_looks_302 F_M_21 (fxo_127 hx) rfl (fxp_127_10 hx) ?_
                  refine x_iload dX11_looks_305 rfl ?_
                  refine y_zaload dX11_looks_307 (fxk_131 hx) (vi rfl (by omega) (by decide)) ((rI (ci rfl (by omega)) (congrFun va_up_at _)).trans hb1) ?_
                  refine x_if_eq (tgt := 315) dX11_looks_308 rfl (fun c308 => ?_) (fun c308 => ?_)
                  · refine x_iconst (v := 0) dX11_looks_315 (by decide) ?_
                    refine x_goto (tgt := 346) dX11_looks_316 rfl ?_
                    refine y_zastore dX11_looks_346 (fxk_131 hx) (vi htop (by omega) (by decide)) rfl (ci htop (by omega)) ?_
                    rw [xup_row]
                    refine x_goto (tgt := 412) dX11_looks_347 rfl ?_
                    refine x_iinc (v := (nI (a + (i + 1)))) dX11_looks_412 rfl (nI_1 _) (Nat.le_of_ble_eq_true rfl) ?_
                    try simp only [xst, xst2, xclr, xset, xwide]
                    refine x_goto (tgt := 111) dX11_looks_415 rfl ?_
                    exact ih111 (i + 1) r ((if x = -2 then b2 && b else b2 || b) :: st) sum _ _ _ _ _ (by omega) hv3 hE2 (hp2.put (bb_v (by first | exact Or.inl ⟨c286, Or.inl ⟨bi_f c298, rfl⟩⟩ | exact Or.inl ⟨c286, Or.inr (Or.inl ⟨bi_t c298, bi_f c308, rfl⟩)⟩ | exact Or.inl ⟨c286, Or.inr (Or.inr ⟨bi_t c298, bi_t c308, rfl⟩)⟩ | exact Or.inr ⟨c286, Or.inl ⟨bi_t c328, rfl⟩⟩ | exact Or.inr ⟨c286, Or.inr (Or.inl ⟨bi_f c328, bi_f c338, rfl⟩)⟩ | exact Or.inr ⟨c286, Or.inr (Or.inr ⟨bi_f c328, bi_t c338, rfl⟩)⟩))) (by simp only [List.length_cons] at hst ⊢; omega) (by omega)
                  · refine x_iconst (v := 1) dX11_looks_311 (by decide) ?_
                    refine x_goto (tgt := 346) dX11_looks_312 rfl ?_
                    refine y_zastore dX11_looks_346 (fxk_131 hx) (vi htop (by omega) (by decide)) rfl (ci htop (by omega)) ?_
                    rw [xup_row]
                    refine x_goto (tgt := 412) dX11_looks_347 rfl ?_
                    refine x_iinc (v := (nI (a + (i + 1)))) dX11_looks_412 rfl (nI_1 _) (Nat.le_of_ble_eq_true rfl) ?_
                    try simp only [xst, xst2, xclr, xset, xwide]
                    refine x_goto (tgt := 111) dX11_looks_415 rfl ?_
                    exact ih111 (i + 1) r ((if x = -2 then b2 && b else b2 || b) :: st) sum _ _ _ _ _ (by omega) hv3 hE2 (hp2.put (bb_v (by first | exact Or.inl ⟨c286, Or.inl ⟨bi_f c298, rfl⟩⟩ | exact Or.inl ⟨c286, Or.inr (Or.inl ⟨bi_t c298, bi_f c308, rfl⟩)⟩ | exact Or.inl ⟨c286, Or.inr (Or.inr ⟨bi_t c298, bi_t c308, rfl⟩)⟩ | exact Or.inr ⟨c286, Or.inl ⟨bi_t c328, rfl⟩⟩ | exact Or.inr ⟨c286, Or.inr (Or.inl ⟨bi_f c328, bi_f c338, rfl⟩)⟩ | exact Or.inr ⟨c286, Or.inr (Or.inr ⟨bi_f c328, bi_t c338, rfl⟩)⟩))) (by simp only [List.length_cons] at hst ⊢; omega) (by omega)
          · rw [if_neg (Int32.not_le.mpr c132), if_pos c232] at hv2 hE2
            obtain ⟨hd1, hv3⟩ := hv2
            obtain ⟨b, st, rfl⟩ : ∃ b r, st = b :: r := by
              match st, hd1 with
              | b :: r, _ => exact ⟨b, r, rfl⟩
            have hE2 : lkE (fun i => I 128 (a + i)) B r (i + 1) ((!b) :: st) sum = LK (I 128) B := hE2
            simp only [List.length_cons] at hst
            have htop : nI (b :: st).length - 1 = nI st.length := nI_pred _
            obtain ⟨hb1, hp2⟩ := hp
            refine x_aload_n dX11_looks_235 rfl ?_
            refine y_getr dX11_looks_236 F_M_21 (fxo_127 hx) rfl (fxp_127_10 hx) ?_
            refine x_iload dX11_looks_239 rfl ?_
            refine x_iconst (v := 1) dX11_looks_241 (by decide) ?_
            refine x_isub dX11_looks_242 ?_
            refine x_aload_n dX11_looks_243 rfl ?_
            refine y_getr dX11_looks_244 F_M_21 (fxo_127 hx) rfl (fxp_127_10 hx) ?_
            refine x_iload dX11_looks_247 rfl ?_
            refine x_iconst (v := 1) dX11_looks_249 (by decide) ?_
            refine x_isub dX11_looks_250 ?_
            refine y_zaload dX11_looks_251 (fxk_131 hx) (vi htop (by omega) (by decide)) ((rI (ci htop (by omega)) (congrFun va_up_at _)).trans hb1) ?_
            refine x_if_ne (tgt := 259) dX11_looks_252 rfl (fun c252 => ?_) (fun c252 => ?_)
            · refine x_iconst (v := 0) dX11_looks_259 (by decide) ?_
              refine y_zastore dX11_looks_260 (fxk_131 hx) (vi htop (by omega) (by decide)) rfl (ci htop (by omega)) ?_
              rw [xup_row]
              refine x_goto (tgt := 412) dX11_looks_261 rfl ?_
              refine x_iinc (v := (nI (a + (i + 1)))) dX11_looks_412 rfl (nI_1 _) (Nat.le_of_ble_eq_true rfl) ?_
              try simp only [xst, xst2, xclr, xset, xwide]
              refine x_goto (tgt := 111) dX11_looks_415 rfl ?_
              exact ih111 (i + 1) r ((!b) :: st) sum _ _ _ _ _ (by omega) hv3 hE2 (hp2.put (by first | exact bn_t c252 | exact bn_f c252)) hst (by omega)
            · refine x_iconst (v := 1) dX11_looks_255 (by decide) ?_
              refine x_goto (tgt := 260) dX11_looks_256 rfl ?_
              refine y_zastore dX11_looks_260 (fxk_131 hx) (vi htop (by omega) (by decide)) rfl (ci htop (by omega)) ?_
              rw [xup_row]
              refine x_goto (tgt := 412) dX11_looks_261 rfl ?_
              refine x_iinc (v := (nI (a + (i + 1)))) dX11_looks_412 rfl (nI_1 _) (Nat.le_of_ble_eq_true rfl) ?_
              try simp only [xst, xst2, xclr, xset, xwide]
              refine x_goto (tgt := 111) dX11_looks_415 rfl ?_
              exact ih111 (i + 1) r ((!b) :: st) sum _ _ _ _ _ (by omega) hv3 hE2 (hp2.put (by first | exact bn_t c252 | exact bn_f c252)) hst (by omega)
        · rw [if_pos (Int32.not_lt.mp c132)] at hv2 hE2
          obtain ⟨⟨w, hw, hwx⟩, hst64, hv3⟩ := hv2
          have J222 : ∀ (v : Int32) (hvb : v = if lkT B x = true then 1 else 0), xX g Y_M_looks 1 0 0 (fun r σ => ∃ I1 : Nat → Nat → Int32, r = some (.int (LK (I 128) (xFa (I 128) c base (I 128 (22 + c)) (I 128 9)))) ∧ σ = (nx, sh, P, I1) ∧ xFrm [130, 131] I I1) 222 [some (.ref 127), some (.int (nI c)), some (.int base), some (.int sum), some (.int (nI mm)), some (.int (nI a)), some (.int (nI st.length)), some (.int (nI (a + i))), some (.int x), some (.int (B w)), some (.int (x / 8 - x / 8 / 4 * 4)), some (.int (x / 32))] [.int v, .int (nI st.length), .ref 131] (nx, sh, P, va_up I1 131 t) := by
            intro v hvb
            refine y_zastore dX11_looks_222 (fxk_131 hx) (vi rfl hst64 (by decide)) (by rw [hvb]; exact nb_b) (ci rfl (by omega)) ?_
            rw [xup_row]
            refine x_iinc (v := (nI (st.length + 1))) dX11_looks_223 rfl (nI_1 _) (Nat.le_of_ble_eq_true rfl) ?_
            try simp only [xst, xst2, xclr, xset, xwide]
            refine x_goto (tgt := 412) dX11_looks_226 rfl ?_
            refine x_iinc (v := (nI (a + (i + 1)))) dX11_looks_412 rfl (nI_1 _) (Nat.le_of_ble_eq_true rfl) ?_
            try simp only [xst, xst2, xclr, xset, xwide]
            refine x_goto (tgt := 111) dX11_looks_415 rfl ?_
            exact ih111 (i + 1) r (lkT B x :: st) sum _ _ _ _ _ (by omega) hv3 hE2 (hp.put hvb) (by simp only [List.length_cons]; omega) (by omega)
          refine x_aload_n dX11_looks_135 rfl ?_
          refine y_getr dX11_looks_136 F_M_18 (fxo_127 hx) rfl (fxp_127_9 hx) ?_
          refine x_iload dX11_looks_139 rfl ?_
          refine x_bipush (v := 8) dX11_looks_141 (by decide) ?_
          refine x_irem dX11_looks_143 (by decide) ?_
          refine y_iaload dX11_looks_144 (fxk_130 hx) (vi hwx (by omega) (by decide)) ((rI (ci hwx (by omega)) (rdn (by decide))).trans (congrFun e130 w)) ?_
          refine x_istore dX11_looks_145 (Nat.le_of_ble_eq_true rfl) ?_
          try simp only [xst, xst2, xclr, xset, xwide]
          refine x_iload dX11_looks_147 rfl ?_
          refine x_bipush (v := 8) dX11_looks_149 (by decide) ?_
          refine x_idiv dX11_looks_151 (by decide) ?_
          refine x_iconst (v := 4) dX11_looks_152 (by decide) ?_
          refine x_irem dX11_looks_153 (by decide) ?_
          refine x_istore dX11_looks_154 (Nat.le_of_ble_eq_true rfl) ?_
          try simp only [xst, xst2, xclr, xset, xwide]
          refine x_iload dX11_looks_156 rfl ?_
          refine x_bipush (v := 32) dX11_looks_158 (by decide) ?_
          refine x_idiv dX11_looks_160 (by decide) ?_
          refine x_istore dX11_looks_161 (Nat.le_of_ble_eq_true rfl) ?_
          try simp only [xst, xst2, xclr, xset, xwide]
          refine x_aload_n dX11_looks_163 rfl ?_
          refine y_getr dX11_looks_164 F_M_21 (fxo_127 hx) rfl (fxp_127_10 hx) ?_
          refine x_iload dX11_looks_167 rfl ?_
          refine x_iload dX11_looks_169 rfl ?_
          refine x_if_ne (tgt := 189) dX11_looks_171 rfl (fun c171 => ?_) (fun c171 => ?_)
          · refine x_iload dX11_looks_189 rfl ?_
            refine x_iconst (v := 1) dX11_looks_191 (by decide) ?_
            refine x_icmp_ne (tgt := 210) dX11_looks_192 rfl (fun c192 => ?_) (fun c192 => ?_)
            · refine x_iload dX11_looks_210 rfl ?_
              refine x_iload dX11_looks_212 rfl ?_
              refine x_icmp_le (tgt := 221) dX11_looks_214 rfl (fun c214 => ?_) (fun c214 => ?_)
              · refine x_iconst (v := 0) dX11_looks_221 (by decide) ?_
                exact J222 _ (lkT_v hw hwx (by first | exact Or.inl ⟨c171, Or.inl ⟨Int32.not_le.mp c178, rfl⟩⟩ | exact Or.inl ⟨c171, Or.inr ⟨Int32.not_lt.mpr c178, rfl⟩⟩ | exact Or.inr (Or.inl ⟨c171, c192, Or.inl ⟨c199, rfl⟩⟩) | exact Or.inr (Or.inl ⟨c171, c192, Or.inr ⟨c199, rfl⟩⟩) | exact Or.inr (Or.inr ⟨c171, c192, Or.inl ⟨Int32.not_le.mp c214, rfl⟩⟩) | exact Or.inr (Or.inr ⟨c171, c192, Or.inr ⟨Int32.not_lt.mpr c214, rfl⟩⟩)))
              · refine x_iconst (v := 1) dX11_looks_217 (by decide) ?_
                refine x_goto (tgt := 222) dX11_looks_218 rfl ?_
                exact J222 _ (lkT_v hw hwx (by first | exact Or.inl ⟨c171, Or.inl ⟨Int32.not_le.mp c178, rfl⟩⟩ | exact Or.inl ⟨c171, Or.inr ⟨Int32.not_lt.mpr c178, rfl⟩⟩ | exact Or.inr (Or.inl ⟨c171, c192, Or.inl ⟨c199, rfl⟩⟩) | exact Or.inr (Or.inl ⟨c171, c192, Or.inr ⟨c199, rfl⟩⟩) | exact Or.inr (Or.inr ⟨c171, c192, Or.inl ⟨Int32.not_le.mp c214, rfl⟩⟩) | exact Or.inr (Or.inr ⟨c171, c192, Or.inr ⟨Int32.not_lt.mpr c214, rfl⟩⟩)))
            · refine x_iload dX11_looks_195 rfl ?_
              refine x_iload dX11_looks_197 rfl ?_
              refine x_icmp_ne (tgt := 206) dX11_looks_199 rfl (fun c199 => ?_) (fun c199 => ?_)
              · refine x_iconst (v := 0) dX11_looks_206 (by decide) ?_
                refine x_goto (tgt := 222) dX11_looks_207 rfl ?_
                exact J222 _ (lkT_v hw hwx (by first | exact Or.inl ⟨c171, Or.inl ⟨Int32.not_le.mp c178, rfl⟩⟩ | exact Or.inl ⟨c171, Or.inr ⟨Int32.not_lt.mpr c178, rfl⟩⟩ | exact Or.inr (Or.inl ⟨c171, c192, Or.inl ⟨c199, rfl⟩⟩) | exact Or.inr (Or.inl ⟨c171, c192, Or.inr ⟨c199, rfl⟩⟩) | exact Or.inr (Or.inr ⟨c171, c192, Or.inl ⟨Int32.not_le.mp c214, rfl⟩⟩) | exact Or.inr (Or.inr ⟨c171, c192, Or.inr ⟨Int32.not_lt.mpr c214, rfl⟩⟩)))
              · refine x_iconst (v := 1) dX11_looks_202 (by decide) ?_
                refine x_goto (tgt := 222) dX11_looks_203 rfl ?_
                exact J222 _ (lkT_v hw hwx (by first | exact Or.inl ⟨c171, Or.inl ⟨Int32.not_le.mp c178, rfl⟩⟩ | exact Or.inl ⟨c171, Or.inr ⟨Int32.not_lt.mpr c178, rfl⟩⟩ | exact Or.inr (Or.inl ⟨c171, c192, Or.inl ⟨c199, rfl⟩⟩) | exact Or.inr (Or.inl ⟨c171, c192, Or.inr ⟨c199, rfl⟩⟩) | exact Or.inr (Or.inr ⟨c171, c192, Or.inl ⟨Int32.not_le.mp c214, rfl⟩⟩) | exact Or.inr (Or.inr ⟨c171, c192, Or.inr ⟨Int32.not_lt.mpr c214, rfl⟩⟩)))
          · refine x_iload dX11_looks_174 rfl ?_
            refine x_iload dX11_looks_176 rfl ?_
            refine x_icmp_ge (tgt := 185) dX11_looks_178 rfl (fun c178 => ?_) (fun c178 => ?_)
            · refine x_iconst (v := 0) dX11_looks_185 (by decide) ?_
              refine x_goto (tgt := 222) dX11_looks_186 rfl ?_
              exact J222 _ (lkT_v hw hwx (by first | exact Or.inl ⟨c171, Or.inl ⟨Int32.not_le.mp c178, rfl⟩⟩ | exact Or.inl ⟨c171, Or.inr ⟨Int32.not_lt.mpr c178, rfl⟩⟩ | exact Or.inr (Or.inl ⟨c171, c192, Or.inl ⟨c199, rfl⟩⟩) | exact Or.inr (Or.inl ⟨c171, c192, Or.inr ⟨c199, rfl⟩⟩) | exact Or.inr (Or.inr ⟨c171, c192, Or.inl ⟨Int32.not_le.mp c214, rfl⟩⟩) | exact Or.inr (Or.inr ⟨c171, c192, Or.inr ⟨Int32.not_lt.mpr c214, rfl⟩⟩)))
            · refine x_iconst (v := 1) dX11_looks_181 (by decide) ?_
              refine x_goto (tgt := 222) dX11_looks_182 rfl ?_
              exact J222 _ (lkT_v hw hwx (by first | exact Or.inl ⟨c171, Or.inl ⟨Int32.not_le.mp c178, rfl⟩⟩ | exact Or.inl ⟨c171, Or.inr ⟨Int32.not_lt.mpr c178, rfl⟩⟩ | exact Or.inr (Or.inl ⟨c171, c192, Or.inl ⟨c199, rfl⟩⟩) | exact Or.inr (Or.inl ⟨c171, c192, Or.inr ⟨c199, rfl⟩⟩) | exact Or.inr (Or.inr ⟨c171, c192, Or.inl ⟨Int32.not_le.mp c214, rfl⟩⟩) | exact Or.inr (Or.inr ⟨c171, c192, Or.inr ⟨Int32.not_lt.mpr c214, rfl⟩⟩)))
  exact K111 _ 0 mm [] 0 (I 131) none none none none (by omega) hV.2 hLK.symm trivial (by decide) (Nat.lt_succ_self _)

set_option maxHeartbeats 4000000 in
set_option maxRecDepth 100000 in
theorem r_worthOf {g : xG} {nx : Nat} {sh : Nat → Nat × Nat} {P : Nat → Nat → Option Nat} {I : Nat → Nat → Int32} (hx : xFx sh P) {c : Nat} {base : Int32} (hc : c < 4) (hL : xLw (I 128)) (hday : ∃ dy, dy ≤ 20000 ∧ I 128 9 = nI dy) (hk : ∃ k, k ≤ 6 ∧ I 128 (10 + c) = nI k) : xMet g Y_M_worthOf 2 0 0 [.ref 127, .int (nI c), .int base] (nx, sh, P, I) (fun r σ => ∃ I1 : Nat → Nat → Int32, r = some (.int (wo (I 128) c base (I 128 (22 + c)) (I 128 9))) ∧ σ = (nx, sh, P, I1) ∧ xFrm [130, 131] I I1) := by
  refine xMet.of [some (.ref 127), some (.int (nI c)), some (.int base), none] (by decide +kernel) (Nat.le_of_ble_eq_true rfl) rfl ?_
  refine x_iload_n dX11_worthOf_0 rfl ?_
  refine x_aload_n dX11_worthOf_1 rfl ?_
  refine x_iload_n dX11_worthOf_2 rfl ?_
  refine x_iload_n dX11_worthOf_3 rfl ?_
  refine x_callV (k2 := 0) (n2 := 0) dX11_worthOf_4 LV_M_151 (r_looks hx hc hL) rfl rfl (fxo_127 hx) rfl (Nat.le_of_ble_eq_true rfl) (Nat.le_of_ble_eq_true rfl) (Nat.le_of_ble_eq_true rfl) (Nat.le_of_ble_eq_true rfl) ?_
  rintro _ _ ⟨I1, rfl, rfl, hF⟩
  have e128 : I1 128 = I 128 := hF 128 (by decide)
  refine x_iadd dX11_worthOf_7 ?_
  refine x_callS (k2 := 0) (n2 := 0) dX11_worthOf_8 LS_M_154 r_one rfl rfl (Nat.le_of_ble_eq_true rfl) (Nat.le_of_ble_eq_true rfl) (Nat.le_of_ble_eq_true rfl) (Nat.le_of_ble_eq_true rfl) ?_
  rintro _ _ ⟨rfl, rfl⟩
  refine x_istore_n dX11_worthOf_11 (Nat.le_of_ble_eq_true rfl) ?_
  try simp only [xst, xst2, xclr, xset, xwide]
  refine x_aload_n dX11_worthOf_12 rfl ?_
  refine y_getr dX11_worthOf_13 F_M_9 (fxo_127 hx) rfl (fxp_127_1 hx) ?_
  refine x_bipush (v := 10) dX11_worthOf_16 (by decide) ?_
  refine x_iload_n dX11_worthOf_18 rfl ?_
  refine x_iadd dX11_worthOf_19 ?_
  refine y_iaload dX11_worthOf_20 (fxk_128 hx) (vi (nI_add 10 c) (by omega) (by decide)) (rI (ci (nI_add 10 c) (by omega)) (congrFun e128 _)) ?_
  obtain ⟨kd, hkd, hk⟩ := hk
  rw [hk]
  rcases (show kd = 0 ∨ kd = 1 ∨ kd = 2 ∨ kd = 3 ∨ kd = 4 ∨ kd = 5 ∨ kd = 6 by omega) with rfl | rfl | rfl | rfl | rfl | rfl | rfl
  · skip
    refine x_tableOut (tgt := 176) dX11_worthOf_21 (by decide) rfl ?_
    refine x_iload_n dX11_worthOf_176 rfl ?_
    refine x_ireturn dX11_worthOf_177 rfl nb_int ?_
    first | exact ⟨I1, by unfold wo; rw [hk]; rfl, rfl, hF⟩ | exact ⟨I1, by unfold wo; rw [hk, hq, nI_clamp (by omega)]; rfl, rfl, hF⟩
  · skip
    refine x_tableIn (off := 39) (tgt := 60) dX11_worthOf_21 (by decide) (by decide) rfl rfl ?_
    refine x_iload_n dX11_worthOf_60 rfl ?_
    refine x_aload_n dX11_worthOf_61 rfl ?_
    refine y_getr dX11_worthOf_62 F_M_9 (fxo_127 hx) rfl (fxp_127_1 hx) ?_
    refine x_bipush (v := 14) dX11_worthOf_65 (by decide) ?_
    refine x_iload_n dX11_worthOf_67 rfl ?_
    refine x_iadd dX11_worthOf_68 ?_
    refine y_iaload dX11_worthOf_69 (fxk_128 hx) (vi (nI_add 14 c) (by omega) (by decide)) (rI (ci (nI_add 14 c) (by omega)) (congrFun e128 _)) ?_
    refine x_iconst (v := 3) dX11_worthOf_70 (by decide) ?_
    refine x_idiv dX11_worthOf_71 (by decide) ?_
    refine x_iadd dX11_worthOf_72 ?_
    refine x_ireturn dX11_worthOf_73 rfl nb_int ?_
    first | exact ⟨I1, by unfold wo; rw [hk]; rfl, rfl, hF⟩ | exact ⟨I1, by unfold wo; rw [hk, hq, nI_clamp (by omega)]; rfl, rfl, hF⟩
  · skip
    refine x_tableIn (off := 53) (tgt := 74) dX11_worthOf_21 (by decide) (by decide) rfl rfl ?_
    refine x_iload_n dX11_worthOf_74 rfl ?_
    refine x_iconst (v := 1) dX11_worthOf_75 (by decide) ?_
    refine x_isub dX11_worthOf_76 ?_
    refine x_callS (k2 := 0) (n2 := 0) dX11_worthOf_77 LS_M_154 r_one rfl rfl (Nat.le_of_ble_eq_true rfl) (Nat.le_of_ble_eq_true rfl) (Nat.le_of_ble_eq_true rfl) (Nat.le_of_ble_eq_true rfl) ?_
    rintro _ _ ⟨rfl, rfl⟩
    refine x_ireturn dX11_worthOf_80 rfl nb_int ?_
    first | exact ⟨I1, by unfold wo; rw [hk]; rfl, rfl, hF⟩ | exact ⟨I1, by unfold wo; rw [hk, hq, nI_clamp (by omega)]; rfl, rfl, hF⟩
  · skip
    refine x_tableIn (off := 60) (tgt := 81) dX11_worthOf_21 (by decide) (by decide) rfl rfl ?_
    refine x_iload_n dX11_worthOf_81 rfl ?_
    refine x_aload_n dX11_worthOf_82 rfl ?_
    refine y_getr dX11_worthOf_83 F_M_9 (fxo_127 hx) rfl (fxp_127_1 hx) ?_
    refine x_bipush (v := 9) dX11_worthOf_86 (by decide) ?_
    refine y_iaload dX11_worthOf_88 (fxk_128 hx) (vi (j := 9) rfl (by decide) (by decide)) (rI (j := 9) rfl (congrFun e128 9)) ?_
    refine x_bipush (v := 10) dX11_worthOf_89 (by decide) ?_
    refine x_idiv dX11_worthOf_91 (by decide) ?_
    refine x_isub dX11_worthOf_92 ?_
    refine x_callS (k2 := 0) (n2 := 0) dX11_worthOf_93 LS_M_154 r_one rfl rfl (Nat.le_of_ble_eq_true rfl) (Nat.le_of_ble_eq_true rfl) (Nat.le_of_ble_eq_true rfl) (Nat.le_of_ble_eq_true rfl) ?_
    rintro _ _ ⟨rfl, rfl⟩
    refine x_ireturn dX11_worthOf_96 rfl nb_int ?_
    first | exact ⟨I1, by unfold wo; rw [hk]; rfl, rfl, hF⟩ | exact ⟨I1, by unfold wo; rw [hk, hq, nI_clamp (by omega)]; rfl, rfl, hF⟩
  · skip
    refine x_tableIn (off := 76) (tgt := 97) dX11_worthOf_21 (by decide) (by decide) rfl rfl ?_
    refine x_iload_n dX11_worthOf_97 rfl ?_
    refine x_aload_n dX11_worthOf_98 rfl ?_
    refine y_getr dX11_worthOf_99 F_M_9 (fxo_127 hx) rfl (fxp_127_1 hx) ?_
    refine x_bipush (v := 14) dX11_worthOf_102 (by decide) ?_
    refine x_iload_n dX11_worthOf_104 rfl ?_
    refine x_iadd dX11_worthOf_105 ?_
    refine y_iaload dX11_worthOf_106 (fxk_128 hx) (vi (nI_add 14 c) (by omega) (by decide)) (rI (ci (nI_add 14 c) (by omega)) (congrFun e128 _)) ?_
    refine x_iconst (v := 3) dX11_worthOf_107 (by decide) ?_
    refine x_idiv dX11_worthOf_108 (by decide) ?_
    refine x_iadd dX11_worthOf_109 ?_
    refine x_iconst (v := 2) dX11_worthOf_110 (by decide) ?_
    refine x_isub dX11_worthOf_111 ?_
    refine x_callS (k2 := 0) (n2 := 0) dX11_worthOf_112 LS_M_154 r_one rfl rfl (Nat.le_of_ble_eq_true rfl) (Nat.le_of_ble_eq_true rfl) (Nat.le_of_ble_eq_true rfl) (Nat.le_of_ble_eq_true rfl) ?_
    rintro _ _ ⟨rfl, rfl⟩
    refine x_ireturn dX11_worthOf_115 rfl nb_int ?_
    first | exact ⟨I1, by unfold wo; rw [hk]; rfl, rfl, hF⟩ | exact ⟨I1, by unfold wo; rw [hk, hq, nI_clamp (by omega)]; rfl, rfl, hF⟩
  · skip
    refine x_tableIn (off := 95) (tgt := 116) dX11_worthOf_21 (by decide) (by decide) rfl rfl ?_
    refine x_aload_n dX11_worthOf_116 rfl ?_
    refine y_getr dX11_worthOf_117 F_M_9 (fxo_127 hx) rfl (fxp_127_1 hx) ?_
    refine x_bipush (v := 9) dX11_worthOf_120 (by decide) ?_
    refine y_iaload dX11_worthOf_122 (fxk_128 hx) (vi (j := 9) rfl (by decide) (by decide)) (rI (j := 9) rfl (congrFun e128 9)) ?_
    refine x_iconst (v := 5) dX11_worthOf_123 (by decide) ?_
    refine x_icmp_lt (tgt := 131) dX11_worthOf_124 rfl (fun c124 => ?_) (fun c124 => ?_)
    · refine x_iload_n dX11_worthOf_131 rfl ?_
      refine x_iconst (v := 1) dX11_worthOf_132 (by decide) ?_
      refine x_isub dX11_worthOf_133 ?_
      refine x_callS (k2 := 0) (n2 := 0) dX11_worthOf_134 LS_M_154 r_one rfl rfl (Nat.le_of_ble_eq_true rfl) (Nat.le_of_ble_eq_true rfl) (Nat.le_of_ble_eq_true rfl) (Nat.le_of_ble_eq_true rfl) ?_
      rintro _ _ ⟨rfl, rfl⟩
      refine x_ireturn dX11_worthOf_137 rfl nb_int ?_
      first | exact ⟨I1, by unfold wo; rw [hk]; show _ = some (Value.int (if (5 : Int32) ≤ I 128 9 then 1 else _)); rw [if_neg (Int32.not_le.mpr c124)]; rfl, rfl, hF⟩ | exact ⟨I1, by unfold wo; rw [hk]; show _ = some (Value.int (if (5 : Int32) ≤ I 128 9 then 1 else _)); rw [if_pos (Int32.not_lt.mp c124)], rfl, hF⟩
    · refine x_iconst (v := 1) dX11_worthOf_127 (by decide) ?_
      refine x_goto (tgt := 137) dX11_worthOf_128 rfl ?_
      refine x_ireturn dX11_worthOf_137 rfl nb_int ?_
      first | exact ⟨I1, by unfold wo; rw [hk]; show _ = some (Value.int (if (5 : Int32) ≤ I 128 9 then 1 else _)); rw [if_neg (Int32.not_le.mpr c124)]; rfl, rfl, hF⟩ | exact ⟨I1, by unfold wo; rw [hk]; show _ = some (Value.int (if (5 : Int32) ≤ I 128 9 then 1 else _)); rw [if_pos (Int32.not_lt.mp c124)], rfl, hF⟩
  · skip
    refine x_tableIn (off := 117) (tgt := 138) dX11_worthOf_21 (by decide) (by decide) rfl rfl ?_
    obtain ⟨dy, hdy, hd9⟩ := hday
    have hq : I 128 9 - I 128 9 / 4 * 4 = nI (dy % 4) := by rw [hd9]; exact pk_rem (d := 4) (by omega) (by decide) (by decide)
    have hix : (26 : Int32) + 4 * nI c + (I 128 9 - I 128 9 / 4 * 4) = nI (26 + 4 * c + dy % 4) := by
      rw [hq, show (4 : Int32) * nI c = nI (4 * c) from pk_mul 4 c, show (26 : Int32) + nI (4 * c) = nI (26 + 4 * c) from nI_add 26 _, nI_add]
    refine x_iload_n dX11_worthOf_138 rfl ?_
    refine x_aload_n dX11_worthOf_139 rfl ?_
    refine y_getr dX11_worthOf_140 F_M_9 (fxo_127 hx) rfl (fxp_127_1 hx) ?_
    refine x_bipush (v := 9) dX11_worthOf_143 (by decide) ?_
    refine y_iaload dX11_worthOf_145 (fxk_128 hx) (vi (j := 9) rfl (by decide) (by decide)) (rI (j := 9) rfl (congrFun e128 9)) ?_
    refine x_bipush (v := 10) dX11_worthOf_146 (by decide) ?_
    refine x_idiv dX11_worthOf_148 (by decide) ?_
    refine x_isub dX11_worthOf_149 ?_
    refine x_callS (k2 := 0) (n2 := 0) dX11_worthOf_150 LS_M_154 r_one rfl rfl (Nat.le_of_ble_eq_true rfl) (Nat.le_of_ble_eq_true rfl) (Nat.le_of_ble_eq_true rfl) (Nat.le_of_ble_eq_true rfl) ?_
    rintro _ _ ⟨rfl, rfl⟩
    refine x_aload_n dX11_worthOf_153 rfl ?_
    refine y_getr dX11_worthOf_154 F_M_9 (fxo_127 hx) rfl (fxp_127_1 hx) ?_
    refine x_bipush (v := 26) dX11_worthOf_157 (by decide) ?_
    refine x_iconst (v := 4) dX11_worthOf_159 (by decide) ?_
    refine x_iload_n dX11_worthOf_160 rfl ?_
    refine x_imul dX11_worthOf_161 ?_
    refine x_iadd dX11_worthOf_162 ?_
    refine x_aload_n dX11_worthOf_163 rfl ?_
    refine y_getr dX11_worthOf_164 F_M_9 (fxo_127 hx) rfl (fxp_127_1 hx) ?_
    refine x_bipush (v := 9) dX11_worthOf_167 (by decide) ?_
    refine y_iaload dX11_worthOf_169 (fxk_128 hx) (vi (j := 9) rfl (by decide) (by decide)) (rI (j := 9) rfl (congrFun e128 9)) ?_
    refine x_iconst (v := 4) dX11_worthOf_170 (by decide) ?_
    refine x_irem dX11_worthOf_171 (by decide) ?_
    refine x_iadd dX11_worthOf_172 ?_
    refine y_iaload dX11_worthOf_173 (fxk_128 hx) (vi hix (by omega) (by decide)) (rI (ci hix (by omega)) (congrFun e128 _)) ?_
    refine x_iadd dX11_worthOf_174 ?_
    refine x_ireturn dX11_worthOf_175 rfl nb_int ?_
    first | exact ⟨I1, by unfold wo; rw [hk]; rfl, rfl, hF⟩ | exact ⟨I1, by unfold wo; rw [hk, hq, nI_clamp (by omega)]; rfl, rfl, hF⟩
