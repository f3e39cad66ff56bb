/-! guesses: the class's and the reference's are the same -/
theorem ch_bd {s : Nat → Int32} (h : RI s) : ∃ q, q ≤ 99 ∧ tlO s 222 0 = nI q := by
  rcases h.hold with z | ⟨a, h1, h2⟩
  · exact ⟨0, by omega, by unfold tlO; rw [if_pos z]; rfl⟩
  · obtain ⟨-, ⟨t, ht, ht2⟩, -⟩ := h.2.2.2.2.1.1 a h1
    have := h.2.1.2.2.1
    exact ⟨t, ht, by rw [tlO_at (by omega) h2]; exact ht2⟩
theorem sbR_x {s : Nat → Int32} {v v' : Nat → Nat} {k : Nat} (h : ∀ c, c < cN s 0 → v c = v' c) : ∀ n, n ≤ cN s 0 → sbR s v k n = sbR s v' k n
  | 0, _ => rfl
  | n + 1, hn => by
    show sbR s v k n + s (53 + 4 * k + n) * wb s n (v n) = sbR s v' k n + s (53 + 4 * k + n) * wb s n (v' n)
    rw [sbR_x h n (by omega), h n (by omega)]
theorem cbR_x {s : Nat → Int32} {v v' : Nat → Nat} (h : ∀ c, c < cN s 0 → v c = v' c) : ∀ n, cbR s v n = cbR s v' n
  | 0 => rfl
  | n + 1 => by
    unfold cbR
    rw [sbR_x h _ (Nat.le_refl _), cbR_x h n]
theorem cbR_s {s : Nat → Int32} {v : Nat → Nat} {n : Nat} : cbR s v (n + 1) = if sur s v n < 0 then 1000000 else if cbR s v n < sur s v n then sur s v n else cbR s v n := rfl
theorem cb_all {s : Nat → Int32} {v : Nat → Nat} {x : Int32} (h0 : 0 ≤ x) (h9 : x < 1000000) : ∀ n, cbR s v n ≤ x ↔ ∀ j, j < n → ¬ (sur s v j < 0 ∨ x < sur s v j)
  | 0 => ⟨fun _ j hj => absurd hj (Nat.not_lt_zero j), fun _ => h0⟩
  | n + 1 => by
    have ih := cb_all (s := s) (v := v) h0 h9 n
    rw [cbR_s]
    have hall : (∀ j, j < n + 1 → ¬ (sur s v j < 0 ∨ x < sur s v j)) ↔ (∀ j, j < n → ¬ (sur s v j < 0 ∨ x < sur s v j)) ∧ ¬ (sur s v n < 0 ∨ x < sur s v n) :=
      ⟨fun h => ⟨fun j hj => h j (by omega), h n (by omega)⟩, fun h j hj => by
        by_cases hjn : j = n
        · rw [hjn]; exact h.2
        · exact h.1 j (by omega)⟩
    rw [hall, ← ih]
    by_cases h1 : sur s v n < 0
    · rw [if_pos h1]
      exact ⟨fun z => absurd z (Int32.not_le.mpr h9), fun z => absurd (Or.inl h1) z.2⟩
    · rw [if_neg h1]
      by_cases h2 : cbR s v n < sur s v n
      · rw [if_pos h2]
        exact ⟨fun z => ⟨Int32.le_trans (Int32.le_of_lt h2) z, fun y => y.elim h1 (Int32.not_lt.mpr z)⟩, fun z => Int32.not_lt.mp (fun y => z.2 (Or.inr y))⟩
      · rw [if_neg h2]
        exact ⟨fun z => ⟨z, fun y => y.elim h1 (fun y2 => h2 (Int32.lt_of_le_of_lt z y2))⟩, fun z => z.1⟩
theorem sf_ge {s : Nat → Int32} {v : Nat → Nat} {ch : Int32} : ∀ m k b, b ≤ m → (k + b ≤ sfN s v ch m k ↔ ∀ j, j < b → ¬ (sur s v (k + j) < 0 ∨ ch < sur s v (k + j)))
  | 0, k, b, hb => by
    have : b = 0 := by omega
    subst this
    exact ⟨fun _ j hj => absurd hj (Nat.not_lt_zero j), fun _ => Nat.le_refl _⟩
  | m + 1, k, 0, _ => ⟨fun _ j hj => absurd hj (Nat.not_lt_zero j), fun _ => by
    rw [sfN_s]
    split
    · exact Nat.le_refl _
    · have := (sf_ge (s := s) (v := v) (ch := ch) m (k + 1) 0 (Nat.zero_le _)).mpr (fun j hj => absurd hj (Nat.not_lt_zero j))
      omega⟩
  | m + 1, k, b + 1, hb => by
    rw [sfN_s]
    by_cases h : sur s v k < 0 ∨ ch < sur s v k
    · rw [if_pos h]
      exact ⟨fun z => by omega, fun z => absurd h (z 0 (by omega))⟩
    · rw [if_neg h]
      have ih := sf_ge (s := s) (v := v) (ch := ch) m (k + 1) b (by omega)
      rw [show k + (b + 1) = k + 1 + b by omega, ih]
      refine ⟨fun z j hj => ?_, fun z j hj => ?_⟩
      · match j, hj with
        | 0, _ => exact h
        | j + 1, hj => rw [show k + (j + 1) = k + 1 + j by omega]; exact z j (by omega)
      · have := z (j + 1) (by omega)
        rw [show k + (j + 1) = k + 1 + j by omega] at this
        exact this
/-- b BUYS are so: both ways -/
theorem sf_cb {s : Nat → Int32} (hR : RI s) {v : Nat → Nat} {b : Nat} (hb : b ≤ cN s 3) : cbR s v b ≤ tlO s 222 0 ↔ b ≤ sfN s v (tlO s 222 0) (cN s 3) 0 := by
  obtain ⟨q, hq, hq2⟩ := ch_bd hR
  rw [cb_all (by rw [hq2]; exact nI_0le (by omega)) (by rw [hq2]; exact nI_lt (b := 1000000) (by omega) (by decide))]
  have := sf_ge (s := s) (v := v) (ch := tlO s 222 0) (cN s 3) 0 b hb
  rw [Nat.zero_add] at this
  rw [this]
  exact ⟨fun h j hj => by rw [Nat.zero_add]; exact h j hj, fun h j hj => by have := h j hj; rw [Nat.zero_add] at this; exact this⟩
theorem prL_t {n t : Nat} : ∀ k a, prL (gLn n t) a k = t ^ min k (n - a)
  | 0, a => by rw [Nat.zero_min]; rfl
  | k + 1, a => by
    show gLn n t a * prL (gLn n t) (a + 1) k = _
    rw [prL_t k (a + 1)]
    unfold gLn
    by_cases h : a < n
    · rw [if_pos h, ← Nat.pow_succ', show (min k (n - (a + 1))).succ = min (k + 1) (n - a) by omega]
    · rw [if_neg h, Nat.one_mul, show min k (n - (a + 1)) = min (k + 1) (n - a) by omega]
theorem gvI_e {n t i c : Nat} (hn : n ≤ 4) (hc : c < n) : gvI n t i c = 1 + i / t ^ (n - 1 - c) % t := by
  unfold gvI dgt sfx
  rw [if_pos hc, prL_t, show min (4 - (c + 1)) (n - (c + 1)) = n - 1 - c by omega]
  show 1 + i / t ^ (n - 1 - c) % gLn n t c = _
  unfold gLn
  rw [if_pos hc]
theorem nGu_e {s : Nat → Int32} (hR : RI s) {t : Nat} : nGu s t = t ^ cN s 0 := by
  have := hR.c0.2
  unfold nGu sfx
  rw [prL_t, show min (4 - 0) (cN s 0 - 0) = cN s 0 by omega]
theorem cnt_br {s : Nat → Int32} (hR : RI s) {t : Nat} (ht : 1 ≤ t) {p : (Nat → Nat) → Bool} (hp : vx (cN s 0) p) : ctB (fun i => p (gvI (cN s 0) t i)) (nGu s t) = ctB (fun g => p (dg t g)) (t ^ cN s 0) := by
  rw [nGu_e hR]
  have h1 : ctB (fun i => p (gvI (cN s 0) t i)) (t ^ cN s 0) = ctB (fun i => p (fun c => 1 + i / t ^ (cN s 0 - 1 - c) % t)) (t ^ cN s 0) := ctB_c _ (fun j _ => hp _ _ (fun c hc => gvI_e hR.c0.2 hc))
  rw [h1, cnt_rev ht _ p hp]
  rfl
def okV (s : Nat → Int32) (b : Nat) (v : Nat → Nat) : Bool := decide (cbR s v b ≤ tlO s 222 0)
theorem okV_x {s : Nat → Int32} {b : Nat} : vx (cN s 0) (okV s b) := fun v v' h => by unfold okV; rw [cbR_x h]
theorem okI_V {s : Nat → Int32} (hR : RI s) {t i : Nat} : okI s t i = okV s (cN s 3) (gvI (cN s 0) t i) := by
  unfold okI okV sfI
  rw [decide_eq_decide, sf_cb hR (Nat.le_refl _)]
  have := sfN_le (s := s) (v := gvI (cN s 0) t i) (ch := tlO s 222 0) (cN s 3) 0
  omega
/-- LEFT -/
theorem br_left {s : Nat → Int32} (hR : RI s) : ctB (okI s (tN s)) (nGu s (tN s)) = ctN s := by
  rw [ctB_c _ (fun j _ => okI_V hR), cnt_br hR (tN_bd hR).1 okV_x]
  rfl
theorem br_W {s : Nat → Int32} (hR : RI s) {c w : Nat} (hc : c < cN s 0) : ctB (okB s (tN s) c w) (nGu s (tN s)) = ctW s c w := by
  have hp : vx (cN s 0) (fun v => okV s (cN s 3) v && decide (v c = w)) := fun v v' h => by
    show (okV s (cN s 3) v && decide (v c = w)) = (okV s (cN s 3) v' && decide (v' c = w))
    rw [okV_x v v' h, h c hc]
  rw [ctB_c _ (fun j _ => (by unfold okB; rw [okI_V hR] : okB s (tN s) c w j = (fun v => okV s (cN s 3) v && decide (v c = w)) (gvI (cN s 0) (tN s) j))), cnt_br hR (tN_bd hR).1 hp]
  refine ctB_c _ (fun g _ => ?_)
  show (okG s (tN s) (cN s 3) g && decide (dg (tN s) g c = w)) = (okG s (tN s) (cN s 3) g && dg (tN s) g c == w)
  congr 1
/-- a worth by a base is not great -/
theorem wb_bd {s : Nat → Int32} (h : RI s) {c b : Nat} (hc : c < cN s 0) (hb : b ≤ 9) : ∃ w, w ≤ 2000 ∧ wb s c b = nI w := by
  obtain ⟨p, hp, hp2⟩ := pu_of h hc
  obtain ⟨dy, hd, hd2⟩ := h.dy
  obtain ⟨w, -, h2, h3⟩ := wo_bd h hc (base := nI b) (purse := s (22 + c)) (day := s 9) rfl hb hd2 hd
  exact ⟨w, h2, h3⟩
theorem br_C {s : Nat → Int32} (hR : RI s) {a b q : Nat} (ha : a < cN s 0) (hb : b < cN s 0) : ctB (okC s (tN s) a b q) (nGu s (tN s)) = ctB (fun g => okG s (tN s) (cN s 3) g && decide (cmN (wb s a (dg (tN s) g a)) (wb s b (dg (tN s) g b)) = q)) (gN s) := by
  have hp : vx (cN s 0) (fun v => okV s (cN s 3) v && decide (cmN (gwV s v a) (gwV s v b) = q)) := fun v v' h => by
    show (okV s (cN s 3) v && decide (cmN (gwV s v a) (gwV s v b) = q)) = (okV s (cN s 3) v' && decide (cmN (gwV s v' a) (gwV s v' b) = q))
    unfold gwV
    rw [okV_x v v' h, if_pos ha, if_pos hb, if_pos ha, if_pos hb, h a ha, h b hb]
  rw [ctB_c _ (fun j _ => (by unfold okC; rw [okI_V hR] : okC s (tN s) a b q j = (fun v => okV s (cN s 3) v && decide (cmN (gwV s v a) (gwV s v b) = q)) (gvI (cN s 0) (tN s) j))), cnt_br hR (tN_bd hR).1 hp]
  refine ctB_c _ (fun g _ => ?_)
  show (okG s (tN s) (cN s 3) g && decide (cmN (gwV s (dg (tN s) g) a) (gwV s (dg (tN s) g) b) = q)) = _
  unfold gwV
  rw [if_pos ha, if_pos hb]
theorem df_e {s : Nat → Int32} (hR : RI s) {a b g : Nat} (ha : a < cN s 0) (hb : b < cN s 0) : (0 < dfG s a b g ↔ cmN (wb s a (dg (tN s) g a)) (wb s b (dg (tN s) g b)) = 2) ∧ (dfG s a b g < 0 ↔ cmN (wb s a (dg (tN s) g a)) (wb s b (dg (tN s) g b)) = 0) ∧ (dfG s a b g = 0 ↔ cmN (wb s a (dg (tN s) g a)) (wb s b (dg (tN s) g b)) = 1) := by
  obtain ⟨h1, h9, -⟩ := tN_bd hR
  have hda := dg_in (t := tN s) (g := g) (c := a) h1 h9
  have hdb := dg_in (t := tN s) (g := g) (c := b) h1 h9
  obtain ⟨x, hx, ex⟩ := wb_bd hR ha (b := dg (tN s) g a) (by omega)
  obtain ⟨y, hy, ey⟩ := wb_bd hR hb (b := dg (tN s) g b) (by omega)
  unfold dfG
  rw [ex, ey]
  have hd : (nI x - nI y).toInt = (x : Int) - y := i_sub (nI_toInt (by omega)) (nI_toInt (by omega)) (by omega) (by omega)
  have k1 : (nI x < nI y) ↔ x < y := nI_ltI (by omega) (by omega)
  have k2 : (nI x = nI y) ↔ x = y := nI_eqI (by omega) (by omega)
  have d1 : (0 < nI x - nI y) ↔ y < x := by rw [Int32.lt_iff_toInt_lt, hd]; show (0 : Int) < _ ↔ _; omega
  have d2 : (nI x - nI y < 0) ↔ x < y := by rw [Int32.lt_iff_toInt_lt, hd]; show _ < (0 : Int) ↔ _; omega
  have d3 : (nI x - nI y = 0) ↔ x = y := by rw [← Int32.toInt_inj, hd]; show _ = (0 : Int) ↔ _; omega
  rw [d1, d2, d3]
  unfold cmN
  by_cases z1 : x < y
  · rw [if_pos (k1.mpr z1)]; omega
  · rw [if_neg (fun z => z1 (k1.mp z))]
    by_cases z2 : x = y
    · rw [if_pos (k2.mpr z2)]; omega
    · rw [if_neg (fun z => z2 (k2.mp z))]; omega
theorem br_mo {s : Nat → Int32} (hR : RI s) {a b : Nat} (ha : a < cN s 0) (hb : b < cN s 0) : ctB (okC s (tN s) a b 2) (nGu s (tN s)) = moS s a b (gN s) := by
  rw [br_C hR ha hb]
  exact ctB_c _ (fun g _ => by rw [decide_eq_decide.mpr (df_e hR (g := g) ha hb).1])
theorem br_le {s : Nat → Int32} (hR : RI s) {a b : Nat} (ha : a < cN s 0) (hb : b < cN s 0) : ctB (okC s (tN s) a b 0) (nGu s (tN s)) = leS s a b (gN s) := by
  rw [br_C hR ha hb]
  exact ctB_c _ (fun g _ => by rw [decide_eq_decide.mpr (df_e hR (g := g) ha hb).2.1])
theorem br_al {s : Nat → Int32} (hR : RI s) {a b : Nat} (ha : a < cN s 0) (hb : b < cN s 0) : ctB (okC s (tN s) a b 1) (nGu s (tN s)) = alS s a b (gN s) := by
  rw [br_C hR ha hb]
  exact ctB_c _ (fun g _ => by rw [decide_eq_decide.mpr (df_e hR (g := g) ha hb).2.2])
/-! WRONG -/
theorem mx_0 {f : Nat → Nat} {b : Nat} (hb : 1 ≤ b) : ∀ n, ctB (fun i => decide (b ≤ f i)) n = 0 ↔ mxF f n < b
  | 0 => ⟨fun _ => by show 0 < b; omega, fun _ => rfl⟩
  | n + 1 => by
    show ctB _ n + (if decide (b ≤ f n) = true then 1 else 0) = 0 ↔ max (mxF f n) (f n) < b
    have ih := mx_0 (f := f) hb n
    by_cases h : b ≤ f n
    · rw [if_pos (decide_eq_true h)]; omega
    · rw [if_neg (by rw [decide_eq_false h]; decide)]; omega
theorem br_X {s : Nat → Int32} (hR : RI s) {b : Nat} (hb : b ≤ cN s 3) : ctX s b = ctB (fun i => decide (b ≤ sfI s (tN s) i)) (nGu s (tN s)) := by
  have e : ∀ j, decide (b ≤ sfI s (tN s) j) = okV s b (gvI (cN s 0) (tN s) j) := fun j => by
    unfold okV sfI
    rw [decide_eq_decide, sf_cb hR hb]
  rw [ctB_c _ (fun j _ => e j), cnt_br hR (tN_bd hR).1 okV_x]
  rfl
theorem br_wr {s : Nat → Int32} (hR : RI s) : ∀ d k, k + d = mxF (sfI s (tN s)) (nGu s (tN s)) → wrS s (cN s 3 - k) k = if mxF (sfI s (tN s)) (nGu s (tN s)) = cN s 3 then -5 else nI (mxF (sfI s (tN s)) (nGu s (tN s)))
  | 0, k, h => by
    have hM : mxF (sfI s (tN s)) (nGu s (tN s)) ≤ cN s 3 := mxF_le (fun i => by have := sfN_le (s := s) (v := gvI (cN s 0) (tN s) i) (ch := tlO s 222 0) (cN s 3) 0; have h9 : sfI s (tN s) i ≤ 0 + cN s 3 := this; omega) _
    rw [← h, Nat.add_zero]
    by_cases hk : k = cN s 3
    · rw [if_pos hk, hk, Nat.sub_self]; rfl
    · rw [if_neg hk, show cN s 3 - k = (cN s 3 - (k + 1)) + 1 by omega]
      show (if ctX s (k + 1) = 0 then nI k else _) = _
      rw [if_pos]
      rw [br_X hR (by omega), mx_0 (by omega)]
      omega
  | d + 1, k, h => by
    have hM : mxF (sfI s (tN s)) (nGu s (tN s)) ≤ cN s 3 := mxF_le (fun i => by have := sfN_le (s := s) (v := gvI (cN s 0) (tN s) i) (ch := tlO s 222 0) (cN s 3) 0; have h9 : sfI s (tN s) i ≤ 0 + cN s 3 := this; omega) _
    rw [show cN s 3 - k = (cN s 3 - (k + 1)) + 1 by omega]
    show (if ctX s (k + 1) = 0 then nI k else wrS s (cN s 3 - (k + 1)) (k + 1)) = _
    rw [if_neg]
    · exact br_wr hR d (k + 1) (by omega)
    · rw [br_X hR (by omega), mx_0 (by omega)]
      omega
theorem br_wrong {s : Nat → Int32} (hR : RI s) : a_wrong s = if mxF (sfI s (tN s)) (nGu s (tN s)) = cN s 3 then -5 else nI (mxF (sfI s (tN s)) (nGu s (tN s))) := br_wr hR _ 0 (Nat.zero_add _)
/-! CHEATED -/
theorem ct_pos {p : Nat → Bool} : ∀ n, ctB p n = 0 ↔ ∀ i, i < n → p i = false
  | 0 => ⟨fun _ i hi => absurd hi (Nat.not_lt_zero i), fun _ => rfl⟩
  | n + 1 => by
    show ctB p n + (if p n = true then 1 else 0) = 0 ↔ _
    have ih := ct_pos (p := p) n
    constructor
    · intro h i hi
      by_cases hz : p n = true
      · rw [if_pos hz] at h; omega
      · by_cases hin : i = n
        · rw [hin]; cases hq : p n; rfl; exact absurd hq hz
        · exact ih.mp (by omega) i (by omega)
    · intro h
      rw [ih.mpr (fun i hi => h i (by omega)), if_neg (by rw [h n (by omega)]; decide)]
theorem lc_le {s : Nat → Int32} {t b : Nat} {x : Int32} (hx : x < 1000000) : ∀ n, lcM s t b n ≤ x ↔ ¬ ctB (fun g => decide (cbR s (dg t g) b ≤ x)) n = 0
  | 0 => ⟨fun z => absurd z (Int32.not_le.mpr hx), fun z => absurd rfl z⟩
  | n + 1 => by
    have ih := lc_le (s := s) (t := t) (b := b) hx n
    show (if cbR s (dg t n) b < lcM s t b n then cbR s (dg t n) b else lcM s t b n) ≤ x ↔ ¬ ctB _ n + (if decide (cbR s (dg t n) b ≤ x) = true then 1 else 0) = 0
    by_cases h : cbR s (dg t n) b ≤ x
    · rw [if_pos (decide_eq_true h)]
      refine ⟨fun _ => by omega, fun _ => ?_⟩
      split
      · exact h
      · rename_i z; exact Int32.le_trans (Int32.not_lt.mp z) h
    · rw [if_neg (show ¬ decide (cbR s (dg t n) b ≤ x) = true from by rw [decide_eq_false h]; decide), Nat.add_zero, ← ih]
      split
      · rename_i z; exact ⟨fun y => absurd y h, fun y => absurd (Int32.le_trans (Int32.le_of_lt z) y) h⟩
      · exact Iff.rfl
theorem mn_le {f : Nat → Int32} {x : Int32} (hx : x < 61) : ∀ n, mnC f n ≤ x ↔ ¬ ctB (fun i => decide (f i ≤ x)) n = 0
  | 0 => ⟨fun z => absurd z (Int32.not_le.mpr hx), fun z => absurd rfl z⟩
  | n + 1 => by
    have ih := mn_le (f := f) hx n
    show (if mnC f n ≤ f n then mnC f n else f n) ≤ x ↔ ¬ ctB _ n + (if decide (f n ≤ x) = true then 1 else 0) = 0
    by_cases h : f n ≤ x
    · rw [if_pos (decide_eq_true h)]
      refine ⟨fun _ => by omega, fun _ => ?_⟩
      split
      · rename_i z; exact Int32.le_trans z h
      · exact h
    · rw [if_neg (show ¬ decide (f n ≤ x) = true from by rw [decide_eq_false h]; decide), Nat.add_zero, ← ih]
      split
      · exact Iff.rfl
      · rename_i z; exact ⟨fun y => absurd y h, fun y => absurd (Int32.le_trans (Int32.le_of_lt (Int32.not_le.mp z)) y) h⟩
theorem cn_le {s : Nat → Int32} {v : Nat → Nat} {x : Int32} (hx : x < 61) : ∀ m k nd, cnN s v m k nd ≤ x ↔ (nd ≤ x ∨ False) ∧ ∀ j, j < m → ¬ (sur s v (k + j) < 0 ∨ x < sur s v (k + j))
  | 0, k, nd => ⟨fun h => ⟨Or.inl h, fun j hj => absurd hj (Nat.not_lt_zero j)⟩, fun h => h.1.elim id False.elim⟩
  | m + 1, k, nd => by
    rw [cnN_s]
    by_cases h : sur s v k < 0
    · rw [if_pos h]
      exact ⟨fun z => absurd z (Int32.not_le.mpr hx), fun z => absurd (Or.inl h) (z.2 0 (by omega))⟩
    · rw [if_neg h, cn_le hx m (k + 1)]
      have hmx : (if nd ≤ sur s v k then sur s v k else nd) ≤ x ↔ nd ≤ x ∧ sur s v k ≤ x := by
        split
        · rename_i z; exact ⟨fun y => ⟨Int32.le_trans z y, y⟩, fun y => y.2⟩
        · rename_i z; exact ⟨fun y => ⟨y, Int32.le_trans (Int32.le_of_lt (Int32.not_le.mp z)) y⟩, fun y => y.1⟩
      rw [or_false, or_false, hmx]
      refine ⟨fun z => ⟨z.1.1, fun j hj => ?_⟩, fun z => ⟨⟨z.1, ?_⟩, fun j hj => ?_⟩⟩
      · match j, hj with
        | 0, _ => exact fun y => y.elim h (Int32.not_lt.mpr z.1.2)
        | j + 1, hj => rw [show k + (j + 1) = k + 1 + j by omega]; exact z.2 j (by omega)
      · exact Int32.not_lt.mp (fun y => z.2 0 (by omega) (Or.inr y))
      · have := z.2 (j + 1) (by omega)
        rw [show k + (j + 1) = k + 1 + j by omega] at this
        exact this
theorem cn_cb {s : Nat → Int32} {v : Nat → Nat} {x : Int32} (h0 : 0 ≤ x) (hx : x < 61) {n : Nat} : cnN s v n 0 0 ≤ x ↔ cbR s v n ≤ x := by
  rw [cn_le hx, cb_all h0 (Int32.lt_of_lt_of_le hx (by decide)), or_false]
  exact ⟨fun z j hj => by have := z.2 j hj; rw [Nat.zero_add] at this; exact this, fun z => ⟨h0, fun j hj => by rw [Nat.zero_add]; exact z j hj⟩⟩
theorem br_lc {s : Nat → Int32} (hR : RI s) {x : Int32} (h0 : 0 ≤ x) (hx : x < 61) : lcN s ≤ x ↔ mnC (cnI s (tN s)) (nGu s (tN s)) ≤ x := by
  unfold lcN
  rw [lc_le (Int32.lt_of_lt_of_le hx (by decide)), mn_le hx]
  have hp : vx (cN s 0) (fun v => decide (cbR s v (cN s 3) ≤ x)) := fun v v' h => by
    show decide _ = decide _
    rw [cbR_x h]
  have e1 := cnt_br hR (tN_bd hR).1 hp
  have e2 : ctB (fun i => decide (cnI s (tN s) i ≤ x)) (nGu s (tN s)) = ctB (fun i => decide (cbR s (gvI (cN s 0) (tN s) i) (cN s 3) ≤ x)) (nGu s (tN s)) := ctB_c _ (fun i _ => by rw [decide_eq_decide]; exact cn_cb h0 hx)
  rw [e2, e1]
  rfl
theorem cbR_nn {s : Nat → Int32} {v : Nat → Nat} : ∀ n, 0 ≤ cbR s v n
  | 0 => by show (0 : Int32) ≤ 0; decide
  | n + 1 => by
    rw [cbR_s]
    split
    · decide
    · split
      · rename_i z _; exact Int32.not_lt.mp z
      · exact cbR_nn n
theorem lcM_nn {s : Nat → Int32} {t b : Nat} : ∀ n, 0 ≤ lcM s t b n
  | 0 => by show (0 : Int32) ≤ 1000000; decide
  | n + 1 => by
    show 0 ≤ if cbR s (dg t n) b < lcM s t b n then cbR s (dg t n) b else lcM s t b n
    split
    · exact cbR_nn _
    · exact lcM_nn n
theorem cnN_nn {s : Nat → Int32} {v : Nat → Nat} : ∀ m k nd, 0 ≤ nd → 0 ≤ cnN s v m k nd
  | 0, _, _, h => h
  | m + 1, k, nd, h => by
    rw [cnN_s]
    split
    · decide
    · refine cnN_nn m _ _ ?_
      split
      · rename_i z; exact Int32.le_trans h z
      · exact h
theorem mnC_nn {f : Nat → Int32} (h : ∀ i, 0 ≤ f i) : ∀ n, 0 ≤ mnC f n
  | 0 => by show (0 : Int32) ≤ 61; decide
  | n + 1 => by
    show 0 ≤ if mnC f n ≤ f n then mnC f n else f n
    split
    · exact mnC_nn h n
    · exact h n
theorem i61 {x : Int32} : x ≤ 60 ↔ x < 61 := by
  rw [Int32.le_iff_toInt_le, Int32.lt_iff_toInt_lt]
  show x.toInt ≤ 60 ↔ x.toInt < 61
  omega
theorem br_cheated {s : Nat → Int32} (hR : RI s) : a_cheated s = if mnC (cnI s (tN s)) (nGu s (tN s)) ≤ 60 then mnC (cnI s (tN s)) (nGu s (tN s)) else -5 := by
  unfold a_cheated
  have h60 := br_lc hR (x := 60) (by decide) (by decide)
  by_cases h : lcN s ≤ 60
  · have h2 := h60.mp h
    rw [if_pos h, if_pos h2]
    have n1 : 0 ≤ lcN s := lcM_nn _
    have n2 : 0 ≤ mnC (cnI s (tN s)) (nGu s (tN s)) := mnC_nn (fun i => cnN_nn _ _ _ (by decide)) _
    exact Int32.le_antisymm ((br_lc hR n2 (i61.mp h2)).mpr (Int32.le_refl _)) ((br_lc hR n1 (i61.mp h)).mp (Int32.le_refl _))
  · rw [if_neg h, if_neg (fun z => h (h60.mpr z))]
