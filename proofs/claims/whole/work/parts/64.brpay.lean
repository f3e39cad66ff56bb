/-! paying: rows one by one are the reference's nested rows -/
theorem pyK_add {f : Nat → PS → PS} {a : Nat} {st : PS} : ∀ b, pyK f (a + b) st = pyK (fun j => f (a + j)) b (pyK f a st)
  | 0 => rfl
  | b + 1 => by
    show f (a + b) (pyK f (a + b) st) = f (a + b) (pyK (fun j => f (a + j)) b (pyK f a st))
    rw [pyK_add b]
theorem pyK_mul {f : Nat → PS → PS} {M : Nat} {st : PS} : ∀ N, pyK f (N * M) st = pyK (fun q st => pyK (fun r st => f (q * M + r) st) M st) N st
  | 0 => by rw [Nat.zero_mul]; rfl
  | N + 1 => by
    rw [Nat.add_mul, Nat.one_mul, pyK_add, pyK_mul N]
    rfl
theorem pyK_c {f g : Nat → PS → PS} {st : PS} : ∀ n, (∀ j, j < n → ∀ a, f j a = g j a) → pyK f n st = pyK g n st
  | 0, _ => rfl
  | n + 1, h => by
    show f n (pyK f n st) = g n (pyK g n st)
    rw [pyK_c n (fun j hj => h j (by omega)), h n (by omega)]
def dV (bk : Nat → Nat) (len : Nat → Nat) (i c : Nat) : Int32 := nI (dgt len 4 i c) - nI (bk c)
def lfD (w : Nat → Int32) (bk pu len : Nat → Nat) : Nat → Nat → Int32 → Int32 → (Nat → Int32) → Nat → PS → PS
  | 0, c, left, coins, rows, _, st => pyL w bk pu 0 c left coins rows st
  | m + 1, c, left, coins, rows, i, st => lfD w bk pu len m (c + 1) (left - dV bk len i c * w c) (coins + abI (dV bk len i c)) (upd rows c (dV bk len i c)) i st
theorem lf_br {w : Nat → Int32} {bk pu len : Nat → Nat} (hl : ∀ c, len c = bk c + pu c + 1) : ∀ (m c : Nat) (left coins : Int32) (rows : Nat → Int32) (B : Nat) (st : PS), c + m = 4 → pyL w bk pu m c left coins rows st = pyK (fun r st => lfD w bk pu len m c left coins rows (B * sfx len 4 c + r) st) (sfx len 4 c) st
  | 0, c, left, coins, rows, B, st, hc => by
    have : c = 4 := by omega
    subst this
    rw [sfx_W]
    rfl
  | m + 1, c, left, coins, rows, B, st, hc => by
    rw [pyL_s, ← hl c, sfx_s (show c < 4 by omega), pyK_mul]
    refine pyK_c _ (fun q hq a => ?_)
    show pyL w bk pu m (c + 1) (left - (nI q - nI (bk c)) * w c) (coins + abI (nI q - nI (bk c))) (upd rows c (nI q - nI (bk c))) a = _
    rw [lf_br hl m (c + 1) _ _ _ (B * len c + q) a (by omega)]
    refine pyK_c _ (fun r hr b => ?_)
    have e : B * (len c * sfx len 4 (c + 1)) + (q * sfx len 4 (c + 1) + r) = (B * len c + q) * sfx len 4 (c + 1) + r := by rw [Nat.add_mul, Nat.mul_assoc, Nat.add_assoc]
    have hd : dgt len 4 ((B * len c + q) * sfx len 4 (c + 1) + r) c = q := by
      unfold dgt
      rw [Nat.mul_comm (B * len c + q), Nat.mul_add_div (by omega), Nat.div_eq_of_lt hr, Nat.add_zero, Nat.mul_comm B, Nat.mul_add_mod, Nat.mod_eq_of_lt hq]
    rw [e]
    show _ = lfD w bk pu len m (c + 1) (left - dV bk len _ c * w c) (coins + abI (dV bk len _ c)) (upd rows c (dV bk len _ c)) _ b
    unfold dV
    rw [hd]
theorem dV_e {n back i c : Nat} {pu : Nat → Nat} : dV (bkN n back) (pyLn n back pu) i c = pyV n back pu i c := by
  unfold dV pyV
  rw [pyB_e, Int32.sub_eq_add_neg, Int32.add_comm]
theorem pyV_b {n back i c : Nat} {pu : Nat → Nat} (hbk : back ≤ 3) (hpu : ∀ c, c < 4 → pu c ≤ 9) (hc : c < 4) : ∃ z, z ≤ 12 ∧ abI (pyV n back pu i c) = nI z := by
  have hb : bkN n back c ≤ 3 := by unfold bkN; split <;> omega
  have hp := hpu c hc
  have hd : dgt (pyLn n back pu) 4 i c < pyLn n back pu c := Nat.mod_lt _ (by unfold pyLn; omega)
  have hd2 : dgt (pyLn n back pu) 4 i c < bkN n back c + pu c + 1 := hd
  rw [← dV_e]
  unfold dV abI
  by_cases h : dgt (pyLn n back pu) 4 i c < bkN n back c
  · rw [if_pos (pk_sneg (by omega) h), Int32.neg_sub, nI_subN (by omega)]
    exact ⟨_, by omega, rfl⟩
  · rw [nI_subN (by omega), if_neg (nI_pos (by omega))]
    exact ⟨_, by omega, rfl⟩
theorem xSz_b {n back i : Nat} {pu : Nat → Nat} (hbk : back ≤ 3) (hpu : ∀ c, c < 4 → pu c ≤ 9) : ∃ z, z ≤ 48 ∧ xSz (pyV n back pu i) 4 = nI z := by
  obtain ⟨a, ha, ea⟩ := pyV_b (n := n) (i := i) hbk hpu (show 0 < 4 by decide)
  obtain ⟨b, hb, eb⟩ := pyV_b (n := n) (i := i) hbk hpu (show 1 < 4 by decide)
  obtain ⟨c, hc, ec⟩ := pyV_b (n := n) (i := i) hbk hpu (show 2 < 4 by decide)
  obtain ⟨d, hd, ed⟩ := pyV_b (n := n) (i := i) hbk hpu (show 3 < 4 by decide)
  refine ⟨a + b + c + d, by omega, ?_⟩
  show (((0 + abI (pyV n back pu i 0)) + abI (pyV n back pu i 1)) + abI (pyV n back pu i 2)) + abI (pyV n back pu i 3) = _
  rw [ea, eb, ec, ed, Int32.zero_add, nI_add, nI_add, nI_add]
theorem lf_4 {w : Nat → Int32} {n back i : Nat} {pu : Nat → Nat} {p : Int32} {r0 : Nat → Int32} {st : PS} : lfD w (bkN n back) pu (pyLn n back pu) 4 0 p 0 r0 i st = if smV w (pyV n back pu i) = p then (if xSz (pyV n back pu i) 4 < st.1 then (xSz (pyV n back pu i) 4, st.2.1 + 1, upd (upd (upd (upd r0 0 (pyV n back pu i 0)) 1 (pyV n back pu i 1)) 2 (pyV n back pu i 2)) 3 (pyV n back pu i 3)) else (st.1, st.2.1 + 1, st.2.2)) else st := by
  show (if p - dV _ _ i 0 * w 0 - dV _ _ i 1 * w 1 - dV _ _ i 2 * w 2 - dV _ _ i 3 * w 3 = 0 then (if (((0 + abI (dV _ _ i 0)) + abI (dV _ _ i 1)) + abI (dV _ _ i 2)) + abI (dV _ _ i 3) < st.1 then ((((0 + abI (dV _ _ i 0)) + abI (dV _ _ i 1)) + abI (dV _ _ i 2)) + abI (dV _ _ i 3), st.2.1 + 1, upd (upd (upd (upd r0 0 (dV _ _ i 0)) 1 (dV _ _ i 1)) 2 (dV _ _ i 2)) 3 (dV _ _ i 3)) else (st.1, st.2.1 + 1, st.2.2)) else st) = _
  rw [dV_e, dV_e, dV_e, dV_e]
  have hq : ∀ a b c d : Int32, (p - a - b - c - d = 0) ↔ (((0 + a) + b) + c) + d = p := fun a b c d => by constructor <;> intro h <;> grind
  have e : smV w (pyV n back pu i) = (((0 + pyV n back pu i 0 * w 0) + pyV n back pu i 1 * w 1) + pyV n back pu i 2 * w 2) + pyV n back pu i 3 * w 3 := rfl
  have hc := hq (pyV n back pu i 0 * w 0) (pyV n back pu i 1 * w 1) (pyV n back pu i 2 * w 2) (pyV n back pu i 3 * w 3)
  rw [← e] at hc
  by_cases h : smV w (pyV n back pu i) = p
  · rw [if_pos h, if_pos (hc.mpr h)]; rfl
  · rw [if_neg h, if_neg (fun z => h (hc.mp z))]
/-- class and reference after the same rows -/
def xRf (a : Int32 × (Nat → Int32)) (st : PS) : Prop := (a.1 = -5 ∧ st.1 = 1000000) ∨ (a.1 = st.1 ∧ (∃ z, z ≤ 48 ∧ st.1 = nI z) ∧ ∀ c, c < 4 → a.2 c = st.2.2 c)
theorem fw_br {w : Nat → Int32} {n back : Nat} {pu : Nat → Nat} {p : Int32} {b0 r0 : Nat → Int32} (hbk : back ≤ 3) (hpu : ∀ c, c < 4 → pu c ≤ 9) : ∀ i, xRf (fwS w (pyV n back pu) p b0 i) (pyK (fun r st => lfD w (bkN n back) pu (pyLn n back pu) 4 0 p 0 r0 r st) i (1000000, 0, r0)) ∧ wyS w (pyV n back pu) p i = (pyK (fun r st => lfD w (bkN n back) pu (pyLn n back pu) 4 0 p 0 r0 r st) i (1000000, 0, r0)).2.1
  | 0 => ⟨Or.inl ⟨rfl, rfl⟩, rfl⟩
  | i + 1 => by
    obtain ⟨h1, h2⟩ := fw_br (w := w) (n := n) (p := p) (b0 := b0) (r0 := r0) hbk hpu i
    obtain ⟨st, hst⟩ : ∃ st, st = pyK (fun r st => lfD w (bkN n back) pu (pyLn n back pu) 4 0 p 0 r0 r st) i (1000000, 0, r0) := ⟨_, rfl⟩
    rw [← hst] at h1 h2
    have e : pyK (fun r st => lfD w (bkN n back) pu (pyLn n back pu) 4 0 p 0 r0 r st) (i + 1) (1000000, 0, r0) = lfD w (bkN n back) pu (pyLn n back pu) 4 0 p 0 r0 i st := by rw [hst]; rfl
    rw [e, lf_4, fwS_s]
    obtain ⟨z, hz, ez⟩ := xSz_b (n := n) (i := i) hbk hpu
    have hw : wyS w (pyV n back pu) p (i + 1) = if smV w (pyV n back pu i) = p then wyS w (pyV n back pu) p i + 1 else wyS w (pyV n back pu) p i := rfl
    rw [hw, h2]
    by_cases hs : smV w (pyV n back pu i) = p
    · rw [if_pos hs, if_pos hs]
      have hiff : ((fwS w (pyV n back pu) p b0 i).1 = -5 ∨ xSz (pyV n back pu i) 4 < (fwS w (pyV n back pu) p b0 i).1) ↔ xSz (pyV n back pu i) 4 < st.1 := by
        rcases h1 with ⟨q1, q2⟩ | ⟨q1, ⟨y, hy, ey⟩, -⟩
        · rw [q2, ez]
          exact ⟨fun _ => nI_lt (b := 1000000) (by omega) (by decide), fun _ => Or.inl q1⟩
        · rw [q1]
          exact ⟨fun x => x.resolve_left (by rw [ey]; exact nI_m5 (by omega)), Or.inr⟩
      by_cases hlt : xSz (pyV n back pu i) 4 < st.1
      · rw [if_pos hlt, if_pos ⟨hs, hiff.mpr hlt⟩]
        refine ⟨Or.inr ⟨rfl, ⟨z, hz, ez⟩, fun c hc => ?_⟩, rfl⟩
        show xTk (pyV n back pu i) _ 4 c = upd (upd (upd (upd r0 0 _) 1 _) 2 _) 3 _ c
        rw [xTk_r hc]
        match c, hc with
        | 0, _ => rfl
        | 1, _ => rfl
        | 2, _ => rfl
        | 3, _ => rfl
      · rw [if_neg hlt, if_neg (fun y => hlt (hiff.mp y.2))]
        exact ⟨h1, rfl⟩
    · rw [if_neg hs, if_neg hs, if_neg (fun y => hs y.1)]
      exact ⟨h1, rfl⟩
theorem py_br {w : Nat → Int32} {n back : Nat} {pu : Nat → Nat} {p : Int32} {b0 r0 : Nat → Int32} (hbk : back ≤ 3) (hpu : ∀ c, c < 4 → pu c ≤ 9) : xRf (fwS w (pyV n back pu) p b0 (sfx (pyLn n back pu) 4 0)) (pyL w (bkN n back) pu 4 0 p 0 r0 (1000000, 0, r0)) ∧ wyS w (pyV n back pu) p (sfx (pyLn n back pu) 4 0) = (pyL w (bkN n back) pu 4 0 p 0 r0 (1000000, 0, r0)).2.1 := by
  have e := lf_br (w := w) (bk := bkN n back) (pu := pu) (len := pyLn n back pu) (fun _ => rfl) 4 0 p 0 r0 0 (1000000, 0, r0) rfl
  have e2 : pyK (fun r st => lfD w (bkN n back) pu (pyLn n back pu) 4 0 p 0 r0 (0 * sfx (pyLn n back pu) 4 0 + r) st) (sfx (pyLn n back pu) 4 0) (1000000, 0, r0) = pyK (fun r st => lfD w (bkN n back) pu (pyLn n back pu) 4 0 p 0 r0 r st) (sfx (pyLn n back pu) 4 0) (1000000, 0, r0) := pyK_c _ (fun j _ a => by rw [Nat.zero_mul, Nat.zero_add])
  rw [e, e2]
  exact fw_br hbk hpu _
