/-! buying: rows one by one are the reference's nested bags, last first -/
def dnK (f : Nat → BS → BS) : Nat → BS → BS
  | 0, st => st
  | n + 1, st => dnK f n (f n st)
theorem dnK_c {f g : Nat → BS → BS} : ∀ n st, (∀ j, j < n → ∀ a, f j a = g j a) → dnK f n st = dnK g n st
  | 0, _, _ => rfl
  | n + 1, st, h => by
    show dnK f n (f n st) = dnK g n (g n st)
    rw [h n (by omega), dnK_c n _ (fun j hj => h j (by omega))]
theorem dnK_add {f : Nat → BS → BS} {a : Nat} : ∀ b st, dnK f (a + b) st = dnK f a (dnK (fun j => f (a + j)) b st)
  | 0, _ => rfl
  | b + 1, st => by
    show dnK f (a + b) (f (a + b) st) = dnK f a (dnK (fun j => f (a + j)) b (f (a + b) st))
    rw [dnK_add b]
theorem dnK_mul {f : Nat → BS → BS} {M : Nat} : ∀ N st, dnK f (N * M) st = dnK (fun q st => dnK (fun r st => f (q * M + r) st) M st) N st
  | 0, _ => by rw [Nat.zero_mul]; rfl
  | N + 1, st => by
    rw [Nat.add_mul, Nat.one_mul, dnK_add, dnK_mul N]
    rfl
theorem dnK_id {f : Nat → BS → BS} {a : Nat} (h : ∀ j, a ≤ j → ∀ st, f j st = st) : ∀ b st, dnK f (a + b) st = dnK f a st
  | 0, _ => rfl
  | b + 1, st => by
    show dnK f (a + b) (f (a + b) st) = _
    rw [h (a + b) (by omega), dnK_id h b]
theorem bgK_add {f : Nat → BS → BS} {st : BS} {a : Nat} : ∀ b, bgK f (a + b) st = bgK (fun j => f (a + j)) b (bgK f a st)
  | 0 => rfl
  | b + 1 => by
    show f (a + b) (bgK f (a + b) st) = f (a + b) (bgK (fun j => f (a + j)) b (bgK f a st))
    rw [bgK_add b]
theorem bgK_c {f g : Nat → BS → BS} {st : BS} : ∀ n, (∀ j, j < n → ∀ a, f j a = g j a) → bgK f n st = bgK g n st
  | 0, _ => rfl
  | n + 1, h => by
    show f n (bgK f n st) = g n (bgK g n st)
    rw [bgK_c n (fun j hj => h j (by omega)), h n (by omega)]
theorem bg_dn {f : Nat → BS → BS} : ∀ n st, bgK (fun j => f (n - 1 - j)) n st = dnK f n st
  | 0, _ => rfl
  | n + 1, st => by
    rw [show n + 1 = 1 + n by omega, bgK_add]
    show bgK (fun j => f (1 + n - 1 - (1 + j))) n (f (1 + n - 1 - 0) st) = _
    rw [show 1 + n - 1 - 0 = n by omega, show 1 + n = n + 1 by omega]
    show _ = dnK f n (f n st)
    rw [← bg_dn n]
    exact bgK_c n (fun j hj a => by rw [show n + 1 - 1 - (1 + j) = n - 1 - j by omega])
/-- a bag of digits i from ware w on -/
def lfB (pr : Nat → Int32) (len : Nat → Nat) : Nat → Nat → Int32 → Nat → (Nat → Int32) → Nat → BS → BS
  | 0, w, left, room, rows, _, st => bgL pr 0 w left room rows st
  | m + 1, w, left, room, rows, i, st => if dgt len 5 i w ≤ room ∧ nI (dgt len 5 i w) * pr w ≤ left then lfB pr len m (w + 1) (left - nI (dgt len 5 i w) * pr w) (room - dgt len 5 i w) (upd rows w (nI (dgt len 5 i w))) i st else st
theorem lb_br {pr : Nat → Int32} {len : Nat → Nat} {W : Nat} (hW : W ≤ 5) (hl : ∀ c, c < W → len c = 5) (hl2 : ∀ c, W ≤ c → c < 5 → len c = 1) : ∀ (m w : Nat) (left : Int32) (room : Nat) (rows : Nat → Int32) (B : Nat) (st : BS), w + m = W → room ≤ 4 → bgL pr m w left room rows st = dnK (fun r st => lfB pr len m w left room rows (B * sfx len 5 w + r) st) (sfx len 5 w) st
  | 0, w, left, room, rows, B, st, hw, hr => by
    have : sfx len 5 w = 1 := by
      have h1 : ∀ k, k + w ≤ 5 → sfx len 5 (5 - k) = 1 := fun k => by
        induction k with
        | zero => intro _; exact sfx_W
        | succ k ih =>
          intro hk
          rw [sfx_s (by omega), show 5 - (k + 1) + 1 = 5 - k by omega, ih (by omega), hl2 _ (by omega) (by omega)]
      have := h1 (5 - w) (by omega)
      rwa [show 5 - (5 - w) = w by omega] at this
    rw [this]
    rfl
  | m + 1, w, left, room, rows, B, st, hw, hr => by
    have h5 := hl w (by omega)
    rw [bgL_s, sfx_s (show w < 5 by omega), dnK_mul, h5]
    have hg : ∀ q, q < 5 → ∀ a, dnK (fun r st => lfB pr len (m + 1) w left room rows (B * (5 * sfx len 5 (w + 1)) + (q * sfx len 5 (w + 1) + r)) st) (sfx len 5 (w + 1)) a = if q ≤ room then (if nI q * pr w ≤ left then bgL pr m (w + 1) (left - nI q * pr w) (room - q) (upd rows w (nI q)) a else a) else a := by
      intro q hq a
      have hd : ∀ r, r < sfx len 5 (w + 1) → dgt len 5 (B * (5 * sfx len 5 (w + 1)) + (q * sfx len 5 (w + 1) + r)) w = q := fun r hr => by
        have e : B * (5 * sfx len 5 (w + 1)) + (q * sfx len 5 (w + 1) + r) = (B * 5 + q) * sfx len 5 (w + 1) + r := by rw [Nat.add_mul, Nat.mul_assoc, Nat.add_assoc]
        rw [e]
        unfold dgt
        rw [Nat.mul_comm (B * 5 + q), Nat.mul_add_div (by omega), Nat.div_eq_of_lt hr, Nat.add_zero, Nat.mul_comm B, h5, Nat.mul_add_mod, Nat.mod_eq_of_lt hq]
      have hst : ∀ r, r < sfx len 5 (w + 1) → ∀ b, lfB pr len (m + 1) w left room rows (B * (5 * sfx len 5 (w + 1)) + (q * sfx len 5 (w + 1) + r)) b = if q ≤ room ∧ nI q * pr w ≤ left then lfB pr len m (w + 1) (left - nI q * pr w) (room - q) (upd rows w (nI q)) ((B * 5 + q) * sfx len 5 (w + 1) + r) b else b := fun r hr b => by
        show (if dgt len 5 _ w ≤ room ∧ nI (dgt len 5 _ w) * pr w ≤ left then lfB pr len m (w + 1) (left - nI (dgt len 5 _ w) * pr w) (room - dgt len 5 _ w) (upd rows w (nI (dgt len 5 _ w))) _ b else b) = _
        rw [hd r hr, show B * (5 * sfx len 5 (w + 1)) + (q * sfx len 5 (w + 1) + r) = (B * 5 + q) * sfx len 5 (w + 1) + r by rw [Nat.add_mul, Nat.mul_assoc, Nat.add_assoc]]
      rw [dnK_c _ a hst]
      by_cases h1 : q ≤ room
      · rw [if_pos h1]
        by_cases h2 : nI q * pr w ≤ left
        · rw [if_pos h2, lb_br hW hl hl2 m (w + 1) _ _ _ (B * 5 + q) a (by omega) (by omega)]
          exact dnK_c _ a (fun j _ b => by rw [if_pos ⟨h1, h2⟩])
        · rw [if_neg h2]
          exact (dnK_c (g := fun _ b => b) _ a (fun j _ b => by rw [if_neg (fun y => h2 y.2)])).trans (by rw [← Nat.zero_add (sfx len 5 (w + 1)), dnK_id (fun _ _ _ => rfl)]; rfl)
      · rw [if_neg h1]
        exact (dnK_c (g := fun _ b => b) _ a (fun j _ b => by rw [if_neg (fun y => h1 y.1)])).trans (by rw [← Nat.zero_add (sfx len 5 (w + 1)), dnK_id (fun _ _ _ => rfl)]; rfl)
    rw [dnK_c 5 st hg, show 5 = (room + 1) + (4 - room) by omega, dnK_id (fun j hj a => if_neg (by omega)), ← bg_dn]
    refine bgK_c _ (fun j hj a => ?_)
    rw [show room + 1 - 1 - j = room - j by omega, if_pos (Nat.sub_le _ _)]
    rfl
def gS (d : Nat → Nat) : Nat → Nat → Nat
  | 0, _ => 0
  | m + 1, w => d w + gS d m (w + 1)
theorem gS_z {d : Nat → Nat} {k : Nat} : ∀ m w, (∀ c, w + m ≤ c → c < w + m + k → d c = 0) → gS d (m + k) w = gS d m w
  | 0, w, h => by
    rw [Nat.zero_add]
    have : ∀ k w, (∀ c, w ≤ c → c < w + k → d c = 0) → gS d k w = 0 := fun k => by
      induction k with
      | zero => intro w _; rfl
      | succ k ih =>
        intro w hk
        show d w + gS d k (w + 1) = 0
        rw [hk w (Nat.le_refl _) (by omega), ih (w + 1) (fun c h1 h2 => hk c (by omega) (by omega))]
    exact this k w (fun c h1 h2 => h c (by omega) (by omega))
  | m + 1, w, h => by
    rw [show m + 1 + k = (m + k) + 1 by omega]
    show d w + gS d (m + k) (w + 1) = d w + gS d m (w + 1)
    rw [gS_z m (w + 1) (fun c h1 h2 => h c (by omega) (by omega))]
def rwU (d : Nat → Nat) : Nat → Nat → (Nat → Int32) → (Nat → Int32)
  | 0, _, rows => rows
  | m + 1, w, rows => rwU d m (w + 1) (upd rows w (nI (d w)))
theorem rwU_k {d : Nat → Nat} {k : Nat} : ∀ m w rows, rwU d m w rows k = if w ≤ k ∧ k < w + m then nI (d k) else rows k
  | 0, w, rows => by rw [if_neg (by omega)]; rfl
  | m + 1, w, rows => by
    show rwU d m (w + 1) (upd rows w (nI (d w))) k = _
    rw [rwU_k m (w + 1)]
    by_cases h : k = w
    · rw [if_neg (by omega), if_pos (by omega), h, upd_e]
    · by_cases h2 : w + 1 ≤ k ∧ k < w + 1 + m
      · rw [if_pos h2, if_pos (by omega)]
      · rw [if_neg h2, if_neg (by omega), upd_n h]
theorem lb_4 {pr : Nat → Int32} {pn len : Nat → Nat} {W i : Nat} (hp : ∀ c, c < W → pr c = nI (pn c) ∧ pn c ≤ 99) (hd : ∀ c, c < W → dgt len 5 i c ≤ 4) : ∀ m w l room rows st, w + m = W → l ≤ 99 → lfB pr len m w (nI l) room rows i st = if gS (dgt len 5 i) m w ≤ room ∧ gS (fun c => dgt len 5 i c * pn c) m w = l then (st.1 + 1, if st.1 = 0 then rwU (dgt len 5 i) m w rows else st.2) else st
  | 0, w, l, room, rows, st, hw, hl => by
    show (if nI l = 0 then (if st.1 = 0 then (st.1 + 1, rows) else (st.1 + 1, st.2)) else st) = if 0 ≤ room ∧ 0 = l then (st.1 + 1, if st.1 = 0 then rows else st.2) else st
    by_cases h : l = 0
    · have hl0 : nI l = 0 := by rw [h]; rfl
      have hl1 : 0 ≤ room ∧ 0 = l := ⟨Nat.zero_le _, h.symm⟩
      rw [if_pos hl0, if_pos hl1]
      by_cases h2 : st.1 = 0
      · rw [if_pos h2, if_pos h2]
      · rw [if_neg h2, if_neg h2]
    · have hl0 : ¬ nI l = 0 := fun y => h ((nI_eqI (b := 0) (by omega) (by decide)).mp y)
      rw [if_neg hl0, if_neg (fun y => h y.2.symm)]
  | m + 1, w, l, room, rows, st, hw, hl => by
    obtain ⟨e, h99⟩ := hp w (by omega)
    have h4 := hd w (by omega)
    have hm2 : dgt len 5 i w * pn w ≤ 4 * 99 := Nat.mul_le_mul h4 h99
    show (if dgt len 5 i w ≤ room ∧ nI (dgt len 5 i w) * pr w ≤ nI l then lfB pr len m (w + 1) (nI l - nI (dgt len 5 i w) * pr w) (room - dgt len 5 i w) (upd rows w (nI (dgt len 5 i w))) i st else st) = if dgt len 5 i w + gS (dgt len 5 i) m (w + 1) ≤ room ∧ dgt len 5 i w * pn w + gS (fun c => dgt len 5 i c * pn c) m (w + 1) = l then (st.1 + 1, if st.1 = 0 then rwU (dgt len 5 i) m (w + 1) (upd rows w (nI (dgt len 5 i w))) else st.2) else st
    rw [e, pk_mul]
    generalize dgt len 5 i w * pn w = x at hm2
    have hle : nI x ≤ nI l ↔ x ≤ l := nI_leI (by omega) (by omega)
    by_cases h : dgt len 5 i w ≤ room ∧ x ≤ l
    · rw [if_pos ⟨h.1, hle.mpr h.2⟩, nI_subN h.2, lb_4 hp hd m (w + 1) (l - x) (room - dgt len 5 i w) _ st (by omega) (by omega)]
      by_cases h2 : gS (dgt len 5 i) m (w + 1) ≤ room - dgt len 5 i w ∧ gS (fun c => dgt len 5 i c * pn c) m (w + 1) = l - x
      · have h3 : dgt len 5 i w + gS (dgt len 5 i) m (w + 1) ≤ room ∧ x + gS (fun c => dgt len 5 i c * pn c) m (w + 1) = l := ⟨by omega, by omega⟩
        rw [if_pos h2, if_pos h3]
      · rw [if_neg h2, if_neg (by omega)]
    · rw [if_neg (fun y => h ⟨y.1, hle.mp y.2⟩), if_neg (by omega)]
/-- rows of the class: how many, and the last -/
def boS (ok : Nat → Bool) (v : Nat → Nat → Int32) (b0 : Nat → Int32) : Nat → BS
  | 0 => (0, b0)
  | i + 1 => if ok i = true then ((boS ok v b0 i).1 + 1, xTk (v i) (boS ok v b0 i).2 5) else boS ok v b0 i
theorem boS_s {ok : Nat → Bool} {v : Nat → Nat → Int32} {b0 : Nat → Int32} {i : Nat} : boS ok v b0 (i + 1) = if ok i = true then ((boS ok v b0 i).1 + 1, xTk (v i) (boS ok v b0 i).2 5) else boS ok v b0 i := rfl
theorem boS_n {ok : Nat → Bool} {v : Nat → Nat → Int32} {b0 : Nat → Int32} : ∀ n, (boS ok v b0 n).1 = nI (ctB ok n)
  | 0 => rfl
  | n + 1 => by
    rw [boS_s]
    show _ = nI (ctB ok n + if ok n = true then 1 else 0)
    by_cases h : ok n = true
    · rw [if_pos h, if_pos h, ← nI_add, ← boS_n n]; rfl
    · rw [if_neg h, if_neg h]; exact boS_n n
theorem bo_dn {ok : Nat → Bool} {v : Nat → Nat → Int32} {R : Nat → (Nat → Int32)} {b0 : Nat → Int32} {W : Nat} (hW : W ≤ 5) (hR : ∀ i c, c < W → R i c = v i c) : ∀ n (a : Nat) (z : Nat → Int32), a + n < 2 ^ 31 → (dnK (fun i st => if ok i = true then (st.1 + 1, if st.1 = 0 then R i else st.2) else st) n (nI a, z)).1 = nI (a + ctB ok n) ∧ ∀ c, c < W → (dnK (fun i st => if ok i = true then (st.1 + 1, if st.1 = 0 then R i else st.2) else st) n (nI a, z)).2 c = if a = 0 ∧ ¬ ctB ok n = 0 then (boS ok v b0 n).2 c else z c
  | 0, a, z, _ => ⟨rfl, fun c _ => by rw [if_neg (fun y => y.2 rfl)]; rfl⟩
  | n + 1, a, z, ha => by
    have hct : ctB ok (n + 1) = ctB ok n + if ok n = true then 1 else 0 := rfl
    show (dnK _ n (if ok n = true then (nI a + 1, if nI a = 0 then R n else z) else (nI a, z))).1 = _ ∧ ∀ c, c < W → (dnK _ n (if ok n = true then (nI a + 1, if nI a = 0 then R n else z) else (nI a, z))).2 c = _
    by_cases h : ok n = true
    · rw [if_pos h, show nI a + 1 = nI (a + 1) by rw [← nI_add]; rfl, hct, if_pos h, boS_s, if_pos h]
      obtain ⟨h1, h2⟩ := bo_dn (ok := ok) (v := v) (R := R) (b0 := b0) hW hR n (a + 1) (if nI a = 0 then R n else z) (by omega)
      refine ⟨by rw [h1]; congr 1; omega, fun c hc => ?_⟩
      rw [h2 c hc, if_neg (by omega)]
      by_cases h0 : a = 0
      · rw [if_pos (show nI a = 0 by rw [h0]; rfl), if_pos ⟨h0, by omega⟩, hR n c hc]
        show _ = xTk (v n) _ 5 c
        rw [xTk_r (by omega)]
      · have hn0 : ¬ nI a = 0 := fun y => h0 ((nI_eqI (b := 0) (by omega) (by decide)).mp y)
        rw [if_neg hn0, if_neg (fun y => h0 y.1)]
    · rw [if_neg h, hct, if_neg h, boS_s, if_neg h, Nat.add_zero]
      exact bo_dn hW hR n a z (by omega)
/-- prices and lengths -/
def pnB (s : Nat → Int32) (c : Nat) : Nat := if c < cN s 1 then (s (42 + c)).toNatClampNeg else 0
def lnB (n c : Nat) : Nat := if c < n then 5 else 1
def dB (n i c : Nat) : Nat := dgt (lnB n) 5 i c
def okBg (s : Nat → Int32) (l i : Nat) : Bool := decide (gS (dB (cN s 1) i) 5 0 ≤ 4 ∧ gS (fun c => dB (cN s 1) i c * pnB s c) 5 0 = l)
theorem dB_4 {n i c : Nat} : dB n i c ≤ 4 ∧ (n ≤ c → dB n i c = 0) := by
  have h : dB n i c < lnB n c := Nat.mod_lt _ (by unfold lnB; split <;> omega)
  unfold lnB at h
  split at h
  · exact ⟨by omega, fun _ => by omega⟩
  · exact ⟨by omega, fun _ => by omega⟩
theorem pn_e {s : Nat → Int32} (hR : RI s) {c : Nat} (hc : c < cN s 1) : s (42 + c) = nI (pnB s c) ∧ pnB s c ≤ 99 := by
  obtain ⟨p, h1, h2, e⟩ := hR.2.2.2.2.2.1 c hc
  unfold pnB
  rw [if_pos hc, e, nI_clamp (by omega)]
  exact ⟨rfl, by omega⟩
theorem ln_n {n : Nat} : sfx (lnB n) 5 0 ≤ 3125 := by
  have hl : ∀ c, lnB n c ≤ 5 := fun c => by unfold lnB; split <;> omega
  show lnB n 0 * (lnB n 1 * (lnB n 2 * (lnB n 3 * (lnB n 4 * 1)))) ≤ 5 * (5 * (5 * (5 * (5 * 1))))
  exact Nat.mul_le_mul (hl 0) (Nat.mul_le_mul (hl 1) (Nat.mul_le_mul (hl 2) (Nat.mul_le_mul (hl 3) (Nat.mul_le_mul (hl 4) (Nat.le_refl 1)))))
theorem bag_br {s : Nat → Int32} (hR : RI s) {l : Nat} (hl : l ≤ 99) {b0 : Nat → Int32} : (boS (okBg s l) (fun i c => nI (dB (cN s 1) i c)) b0 (sfx (lnB (cN s 1)) 5 0)).1 = (bgA s (nI l)).1 ∧ (∃ z, z ≤ 3125 ∧ (bgA s (nI l)).1 = nI z) ∧ (¬ (bgA s (nI l)).1 = 0 → ∀ c, c < cN s 1 → (boS (okBg s l) (fun i c => nI (dB (cN s 1) i c)) b0 (sfx (lnB (cN s 1)) 5 0)).2 c = (bgA s (nI l)).2 c) := by
  have hW : cN s 1 ≤ 5 := hR.2.1.2.1
  have hN := ln_n (n := cN s 1)
  have e := lb_br (pr := fun c => s (42 + c)) (len := lnB (cN s 1)) hW (fun c hc => if_pos hc) (fun c h1 _ => if_neg (by omega)) (cN s 1) 0 (nI l) 4 (fun _ => 0) 0 (0, fun _ => 0) (by omega) (by decide)
  have e2 : dnK (fun r st => lfB (fun c => s (42 + c)) (lnB (cN s 1)) (cN s 1) 0 (nI l) 4 (fun _ => 0) (0 * sfx (lnB (cN s 1)) 5 0 + r) st) (sfx (lnB (cN s 1)) 5 0) (0, fun _ => 0) = dnK (fun i st => if okBg s l i = true then (st.1 + 1, if st.1 = 0 then rwU (dB (cN s 1) i) (cN s 1) 0 (fun _ => 0) else st.2) else st) (sfx (lnB (cN s 1)) 5 0) (nI 0, fun _ => 0) := dnK_c _ _ (fun i _ a => by
    rw [Nat.zero_mul, Nat.zero_add, lb_4 (pn := pnB s) (W := cN s 1) (fun c hc => pn_e hR hc) (fun c _ => dB_4.1) (cN s 1) 0 l 4 _ a (by omega) hl]
    have z1 : gS (dB (cN s 1) i) 5 0 = gS (dB (cN s 1) i) (cN s 1) 0 := by
      have := gS_z (d := dB (cN s 1) i) (k := 5 - cN s 1) (cN s 1) 0 (fun c h1 _ => dB_4.2 (by omega))
      rwa [show cN s 1 + (5 - cN s 1) = 5 by omega] at this
    have z2 : gS (fun c => dB (cN s 1) i c * pnB s c) 5 0 = gS (fun c => dB (cN s 1) i c * pnB s c) (cN s 1) 0 := by
      have := gS_z (d := fun c => dB (cN s 1) i c * pnB s c) (k := 5 - cN s 1) (cN s 1) 0 (fun c h1 _ => by show dB (cN s 1) i c * pnB s c = 0; rw [dB_4.2 (by omega), Nat.zero_mul])
      rwa [show cN s 1 + (5 - cN s 1) = 5 by omega] at this
    unfold okBg
    rw [z1, z2]
    by_cases h : gS (dB (cN s 1) i) (cN s 1) 0 ≤ 4 ∧ gS (fun c => dB (cN s 1) i c * pnB s c) (cN s 1) 0 = l
    · rw [decide_eq_true h]; exact (if_pos h).trans (if_pos rfl).symm
    · rw [decide_eq_false h]; exact (if_neg h).trans (if_neg Bool.false_ne_true).symm)
  have e3 : bgA s (nI l) = _ := e.trans e2
  obtain ⟨h1, h2⟩ := bo_dn (ok := okBg s l) (v := fun i c => nI (dB (cN s 1) i c)) (R := fun i => rwU (dB (cN s 1) i) (cN s 1) 0 (fun _ => 0)) (b0 := b0) hW (fun i c hc => by rw [rwU_k, if_pos (by omega)]) (sfx (lnB (cN s 1)) 5 0) 0 (fun _ => 0) (by omega)
  rw [Nat.zero_add] at h1
  have hle := ctB_le (p := okBg s l) (sfx (lnB (cN s 1)) 5 0)
  rw [e3, boS_n]
  refine ⟨h1.symm, ⟨_, by omega, h1⟩, fun hz c hc => ?_⟩
  rw [h2 c hc, if_pos ⟨rfl, fun y => hz (by rw [h1, y]; rfl)⟩]
