/-! the reference's state is kept by every call that tells -/
theorem upd_n {f : Nat → Int32} {k j : Nat} {x : Int32} (h : j ≠ k) : upd f k x j = f j := if_neg h
theorem upd_e {f : Nat → Int32} {k : Nat} {x : Int32} : upd f k x k = x := if_pos rfl
def X1 (s : Nat → Int32) : Prop := ∀ i, i < cN s 1 → ∃ p, 1 ≤ p ∧ p ≤ 60 ∧ s (42 + i) = nI p
def X3 (s : Nat → Int32) : Prop := ∀ i, i < cN s 3 → (∃ p, p ≤ 99 ∧ s (47 + i) = nI p) ∧ ∀ k, k < 4 → -4 ≤ s (53 + 4 * i + k) ∧ s (53 + 4 * i + k) ≤ 4
def X4 (s : Nat → Int32) : Prop := ∀ i, i < cN s 4 → (∃ p, p ≤ 19 ∧ s (77 + i) = nI p) ∧ (∃ p, p ≤ 19 ∧ s (83 + i) = nI p) ∧ ∃ p, p ≤ 399 ∧ s (89 + i) = nI p
def X5 (s : Nat → Int32) : Prop := ∀ i, i < cN s 5 → ∃ p, p ≤ 99 ∧ s (95 + i) = nI p
def X6 (s : Nat → Int32) : Prop := ∀ i, i < cN s 6 → (∃ p, p < cN s 0 ∧ s (101 + i) = nI p) ∧ ∃ p, 1 ≤ p ∧ p ≤ 99 ∧ s (109 + i) = nI p
def X7 (s : Nat → Int32) : Prop := ∀ i, i < cN s 7 → ∃ p, p ≤ 127 ∧ s (117 + i) = nI p
def cOk (t : Nat → Int32) (k m : Nat) : Prop := t k = nI (cN t k) ∧ cN t k ≤ m
theorem cOk.of {t : Nat → Int32} {k m n : Nat} (h : t k = nI n) (hn : n ≤ m) (hm : m < 1000) : cOk t k m := by
  have : cN t k = n := by show (t k).toNatClampNeg = n; rw [h, nI_clamp (by omega)]
  exact ⟨by rw [this]; exact h, by omega⟩
def same (s t : Nat → Int32) (a b : Nat) : Prop := ∀ j, a ≤ j → j < b → t j = s j
theorem cN_eq {s t : Nat → Int32} {k : Nat} (h : t k = s k) : cN t k = cN s k := congrArg Int32.toNatClampNeg h
/-- a state is kept block by block -/
theorem RI.mst {s t : Nat → Int32} (h : RI s)
    (d : t 9 = s 9 ∨ ∃ dy, dy ≤ 9999 ∧ t 9 = nI dy)
    (c : (t 0 = s 0 ∧ same s t 10 42) ∨ (cN s 0 ≤ cN t 0 ∧ cOk t 0 4 ∧ RIc t))
    (x1 : (t 1 = s 1 ∧ same s t 42 47) ∨ (cOk t 1 5 ∧ X1 t))
    (x3 : (t 3 = s 3 ∧ same s t 47 77) ∨ (cOk t 3 6 ∧ X3 t))
    (x4 : (t 4 = s 4 ∧ same s t 77 95) ∨ (cOk t 4 6 ∧ X4 t))
    (x5 : (t 5 = s 5 ∧ same s t 95 101) ∨ (cOk t 5 6 ∧ X5 t))
    (x6 : (t 6 = s 6 ∧ same s t 101 117) ∨ (cOk t 6 8 ∧ X6 t))
    (x7 : (t 7 = s 7 ∧ same s t 117 217) ∨ (cOk t 7 100 ∧ X7 t))
    (l : t 2 = s 2 ∧ t 8 = s 8 ∧ ∀ j, 217 ≤ j → t j = s j) : RI t := by
  obtain ⟨hk, ⟨b0, b1, b2, b3, b4, b5, b6, b7⟩, hd, hC, ⟨hl1, hl2⟩, h1, h3, h4, h5, h6, h7⟩ := h
  have q0 : cOk t 0 4 ∧ cN s 0 ≤ cN t 0 := by
    rcases c with ⟨e, -⟩ | ⟨e1, e2, -⟩
    · exact ⟨⟨by rw [cN_eq e, e]; exact hk 0 (by decide), by rw [cN_eq e]; exact b0⟩, by rw [cN_eq e]; exact Nat.le_refl _⟩
    · exact ⟨e2, e1⟩
  have q1 : cOk t 1 5 ∧ X1 t := by
    rcases x1 with ⟨e, e2⟩ | e
    · refine ⟨⟨by rw [cN_eq e, e]; exact hk 1 (by decide), by rw [cN_eq e]; exact b1⟩, fun i hi => ?_⟩
      rw [cN_eq e] at hi; rw [e2 _ (by omega) (by omega)]; exact h1 i hi
    · exact e
  have q3 : cOk t 3 6 ∧ X3 t := by
    rcases x3 with ⟨e, e2⟩ | e
    · refine ⟨⟨by rw [cN_eq e, e]; exact hk 3 (by decide), by rw [cN_eq e]; exact b3⟩, fun i hi => ?_⟩
      rw [cN_eq e] at hi; rw [e2 (47 + i) (by omega) (by omega)]; exact ⟨(h3 i hi).1, fun k hk4 => by rw [e2 _ (by omega) (by omega)]; exact (h3 i hi).2 k hk4⟩
    · exact e
  have q4 : cOk t 4 6 ∧ X4 t := by
    rcases x4 with ⟨e, e2⟩ | e
    · refine ⟨⟨by rw [cN_eq e, e]; exact hk 4 (by decide), by rw [cN_eq e]; exact b4⟩, fun i hi => ?_⟩
      rw [cN_eq e] at hi; rw [e2 (77 + i) (by omega) (by omega), e2 (83 + i) (by omega) (by omega), e2 (89 + i) (by omega) (by omega)]; exact h4 i hi
    · exact e
  have q5 : cOk t 5 6 ∧ X5 t := by
    rcases x5 with ⟨e, e2⟩ | e
    · refine ⟨⟨by rw [cN_eq e, e]; exact hk 5 (by decide), by rw [cN_eq e]; exact b5⟩, fun i hi => ?_⟩
      rw [cN_eq e] at hi; rw [e2 _ (by omega) (by omega)]; exact h5 i hi
    · exact e
  have q6 : cOk t 6 8 ∧ X6 t := by
    rcases x6 with ⟨e, e2⟩ | e
    · refine ⟨⟨by rw [cN_eq e, e]; exact hk 6 (by decide), by rw [cN_eq e]; exact b6⟩, fun i hi => ?_⟩
      rw [cN_eq e] at hi; rw [e2 (101 + i) (by omega) (by omega), e2 (109 + i) (by omega) (by omega)]
      obtain ⟨⟨p, hp, ep⟩, hr⟩ := h6 i hi
      exact ⟨⟨p, Nat.lt_of_lt_of_le hp q0.2, ep⟩, hr⟩
    · exact e
  have q7 : cOk t 7 100 ∧ X7 t := by
    rcases x7 with ⟨e, e2⟩ | e
    · refine ⟨⟨by rw [cN_eq e, e]; exact hk 7 (by decide), by rw [cN_eq e]; exact b7⟩, fun i hi => ?_⟩
      rw [cN_eq e] at hi; rw [e2 _ (by omega) (by omega)]; exact h7 i hi
    · exact e
  refine ⟨?_, ⟨q0.1.2, q1.1.2, by rw [cN_eq l.1]; exact b2, q3.1.2, q4.1.2, q5.1.2, q6.1.2, q7.1.2⟩, ?_, ?_, ⟨fun a ha => ?_, ?_⟩, q1.2, q3.2, q4.2, q5.2, q6.2, q7.2⟩
  · intro i hi
    match i, hi with
    | 0, _ => exact q0.1.1
    | 1, _ => exact q1.1.1
    | 2, _ => rw [cN_eq l.1, l.1]; exact hk 2 (by decide)
    | 3, _ => exact q3.1.1
    | 4, _ => exact q4.1.1
    | 5, _ => exact q5.1.1
    | 6, _ => exact q6.1.1
    | 7, _ => exact q7.1.1
  · rcases d with e | e
    · rw [e]; exact hd
    · exact e
  · rcases c with ⟨e, e2⟩ | ⟨-, -, e⟩
    · intro i hi
      rw [cN_eq e] at hi
      obtain ⟨a1, a2, a3, a4, a5⟩ := hC i hi
      exact ⟨by rw [e2 _ (by omega) (by omega)]; exact a1, by rw [e2 _ (by omega) (by omega)]; exact a2, by rw [e2 _ (by omega) (by omega)]; exact a3, by rw [e2 _ (by omega) (by omega)]; exact a4, fun k hk4 => by rw [e2 _ (by omega) (by omega)]; exact a5 k hk4⟩
    · exact e
  · rw [cN_eq l.1] at ha
    have e : (fun i => t (232 + 140 * a + i)) = fun i => s (232 + 140 * a + i) := funext fun i => l.2.2 _ (by omega)
    rw [l.2.2 (217 + a) (by omega), l.2.2 (222 + a) (by omega), l.2.2 (227 + a) (by omega), e]
    exact hl1 a ha
  · rw [l.2.1, cN_eq l.1]; exact hl2
/-- an int between two natural numbers -/
theorem i_btw {x : Int32} {a b : Nat} (hb : b < 2 ^ 31) (h : nI a ≤ x ∧ x ≤ nI b) (ha : a < 2 ^ 31 := by decide) : ∃ p, a ≤ p ∧ p ≤ b ∧ x = nI p := by
  have h1 := Int32.le_iff_toInt_le.mp h.1
  have h2 := Int32.le_iff_toInt_le.mp h.2
  rw [nI_toInt ha] at h1
  rw [nI_toInt hb] at h2
  obtain ⟨p, hp, e⟩ := i_ofb (x := x) (m := b) (by omega) (by omega)
  rw [e, nI_toInt (by omega)] at h1
  exact ⟨p, by omega, hp, e⟩

theorem RI.feed {s : Nat → Int32} (h : RI s) {x : Int32} : RI (s_feed s x) := by
  unfold s_feed
  by_cases h1 : (0 ≤ x ∧ x ≤ 127) ∧ ¬ s 7 = 100
  · rw [if_pos h1]
    have hk := h.1 7 (by decide)
    have hb := h.2.1.2.2.2.2.2.2.2
    have hn : cN s 7 < 100 := by
      rcases Nat.lt_or_ge (cN s 7) 100 with z | z
      · exact z
      · exact absurd (by rw [hk, show cN s 7 = 100 by omega]; rfl) h1.2
    generalize hN : cN s 7 = n at *
    obtain ⟨p, hp1, hp2, ep⟩ := i_btw (x := x) (a := 0) (b := 127) (by decide) h1.1
    have hA : ∀ j, j ≠ 7 ∧ j ≠ 117 + n → upd (upd s (117 + n) x) 7 (s 7 + 1) j = s j := fun j hj => by rw [upd_n hj.1, upd_n hj.2]
    have hc : upd (upd s (117 + n) x) 7 (s 7 + 1) 7 = nI (n + 1) := by rw [upd_e, hk, nI_1]
    exact h.mst (Or.inl (hA 9 (by omega))) (Or.inl ⟨hA 0 (by omega), fun j _ _ => hA j (by omega)⟩) (Or.inl ⟨hA 1 (by omega), fun j _ _ => hA j (by omega)⟩) (Or.inl ⟨hA 3 (by omega), fun j _ _ => hA j (by omega)⟩) (Or.inl ⟨hA 4 (by omega), fun j _ _ => hA j (by omega)⟩) (Or.inl ⟨hA 5 (by omega), fun j _ _ => hA j (by omega)⟩) (Or.inl ⟨hA 6 (by omega), fun j _ _ => hA j (by omega)⟩) (Or.inr ⟨cOk.of hc (by omega) (by decide), fun i hi => by
      rw [show cN (upd (upd s (117 + n) x) 7 (s 7 + 1)) 7 = n + 1 from cN_of hc (by omega)] at hi
      rw [upd_n (by omega)]
      by_cases hz : i = n
      · rw [hz, upd_e]; exact ⟨p, hp2, ep⟩
      · rw [upd_n (by omega)]; exact h.2.2.2.2.2.2.2.2.2.2 i (by omega)⟩) ⟨hA 2 (by omega), hA 8 (by omega), fun j _ => hA j (by omega)⟩
  · rw [if_neg h1]; exact h

theorem RI.ware {s : Nat → Int32} (h : RI s) {x : Int32} : RI (s_ware s x) := by
  unfold s_ware
  by_cases h1 : (1 ≤ x ∧ x ≤ 60) ∧ ¬ s 1 = 5
  · rw [if_pos h1]
    have hk := h.1 1 (by decide)
    have hb := h.2.1.2.1
    have hn : cN s 1 < 5 := by
      rcases Nat.lt_or_ge (cN s 1) 5 with z | z
      · exact z
      · exact absurd (by rw [hk, show cN s 1 = 5 by omega]; rfl) h1.2
    generalize hN : cN s 1 = n at *
    obtain ⟨p, hp1, hp2, ep⟩ := i_btw (x := x) (a := 1) (b := 60) (by decide) h1.1
    have hA : ∀ j, j ≠ 1 ∧ j ≠ 42 + n → upd (upd s (42 + n) x) 1 (s 1 + 1) j = s j := fun j hj => by rw [upd_n hj.1, upd_n hj.2]
    have hc : upd (upd s (42 + n) x) 1 (s 1 + 1) 1 = nI (n + 1) := by rw [upd_e, hk, nI_1]
    exact h.mst (Or.inl (hA 9 (by omega))) (Or.inl ⟨hA 0 (by omega), fun j _ _ => hA j (by omega)⟩) (Or.inr ⟨cOk.of hc (by omega) (by decide), fun i hi => by
      rw [show cN (upd (upd s (42 + n) x) 1 (s 1 + 1)) 1 = n + 1 from cN_of hc (by omega)] at hi
      rw [upd_n (by omega)]
      by_cases hz : i = n
      · rw [hz, upd_e]; exact ⟨p, hp1, hp2, ep⟩
      · rw [upd_n (by omega)]; exact h.2.2.2.2.2.1 i (by omega)⟩) (Or.inl ⟨hA 3 (by omega), fun j _ _ => hA j (by omega)⟩) (Or.inl ⟨hA 4 (by omega), fun j _ _ => hA j (by omega)⟩) (Or.inl ⟨hA 5 (by omega), fun j _ _ => hA j (by omega)⟩) (Or.inl ⟨hA 6 (by omega), fun j _ _ => hA j (by omega)⟩) (Or.inl ⟨hA 7 (by omega), fun j _ _ => hA j (by omega)⟩) ⟨hA 2 (by omega), hA 8 (by omega), fun j _ => hA j (by omega)⟩
  · rw [if_neg h1]; exact h

theorem RI.plan {s : Nat → Int32} (h : RI s) {x : Int32} : RI (s_plan s x) := by
  unfold s_plan
  by_cases h0 : x = -1
  · rw [if_pos h0]
    have hA : ∀ j, j ≠ 5 → upd s 5 0 j = s j := fun j hj => upd_n hj
    exact h.mst (Or.inl (hA 9 (by omega))) (Or.inl ⟨hA 0 (by omega), fun j _ _ => hA j (by omega)⟩) (Or.inl ⟨hA 1 (by omega), fun j _ _ => hA j (by omega)⟩) (Or.inl ⟨hA 3 (by omega), fun j _ _ => hA j (by omega)⟩) (Or.inl ⟨hA 4 (by omega), fun j _ _ => hA j (by omega)⟩) (Or.inr ⟨cOk.of (n := 0) upd_e (by decide) (by decide), fun i hi => absurd hi (by rw [show cN (upd s 5 0) 5 = 0 from congrArg Int32.toNatClampNeg (upd_e (x := 0))]; exact Nat.not_lt_zero i)⟩) (Or.inl ⟨hA 6 (by omega), fun j _ _ => hA j (by omega)⟩) (Or.inl ⟨hA 7 (by omega), fun j _ _ => hA j (by omega)⟩) ⟨hA 2 (by omega), hA 8 (by omega), fun j _ => hA j (by omega)⟩
  rw [if_neg h0]
  by_cases h1 : (0 ≤ x ∧ x ≤ 99) ∧ ¬ s 5 = 6
  · rw [if_pos h1]
    have hk := h.1 5 (by decide)
    have hb := h.2.1.2.2.2.2.2.1
    have hn : cN s 5 < 6 := by
      rcases Nat.lt_or_ge (cN s 5) 6 with z | z
      · exact z
      · exact absurd (by rw [hk, show cN s 5 = 6 by omega]; rfl) h1.2
    generalize hN : cN s 5 = n at *
    obtain ⟨p, hp1, hp2, ep⟩ := i_btw (x := x) (a := 0) (b := 99) (by decide) h1.1
    have hA : ∀ j, j ≠ 5 ∧ j ≠ 95 + n → upd (upd s (95 + n) x) 5 (s 5 + 1) j = s j := fun j hj => by rw [upd_n hj.1, upd_n hj.2]
    have hc : upd (upd s (95 + n) x) 5 (s 5 + 1) 5 = nI (n + 1) := by rw [upd_e, hk, nI_1]
    exact h.mst (Or.inl (hA 9 (by omega))) (Or.inl ⟨hA 0 (by omega), fun j _ _ => hA j (by omega)⟩) (Or.inl ⟨hA 1 (by omega), fun j _ _ => hA j (by omega)⟩) (Or.inl ⟨hA 3 (by omega), fun j _ _ => hA j (by omega)⟩) (Or.inl ⟨hA 4 (by omega), fun j _ _ => hA j (by omega)⟩) (Or.inr ⟨cOk.of hc (by omega) (by decide), fun i hi => by
      rw [show cN (upd (upd s (95 + n) x) 5 (s 5 + 1)) 5 = n + 1 from cN_of hc (by omega)] at hi
      rw [upd_n (by omega)]
      by_cases hz : i = n
      · rw [hz, upd_e]; exact ⟨p, hp2, ep⟩
      · rw [upd_n (by omega)]; exact h.2.2.2.2.2.2.2.2.1 i (by omega)⟩) (Or.inl ⟨hA 6 (by omega), fun j _ _ => hA j (by omega)⟩) (Or.inl ⟨hA 7 (by omega), fun j _ _ => hA j (by omega)⟩) ⟨hA 2 (by omega), hA 8 (by omega), fun j _ => hA j (by omega)⟩
  · rw [if_neg h1]; exact h

theorem RI.pass {s : Nat → Int32} (h : RI s) {x : Int32} : RI (s_pass s x) := by
  unfold s_pass
  by_cases h1 : (0 ≤ x ∧ x ≤ 60) ∧ s 9 + x ≤ 9999
  · rw [if_pos h1]
    obtain ⟨dy, hd, ed⟩ := h.2.2.1
    obtain ⟨p, -, hp2, ep⟩ := i_btw (x := x) (a := 0) (b := 60) (by decide) h1.1
    have h2 := h1.2
    rw [ed, ep, nI_add] at h2
    have h3 := (nI_leI (a := dy + p) (b := 9999) (by omega) (by decide)).mp h2
    have hA : ∀ j, j ≠ 9 → upd s 9 (s 9 + x) j = s j := fun j hj => upd_n hj
    exact h.mst (Or.inr ⟨dy + p, h3, by rw [upd_e, ed, ep, nI_add]⟩) (Or.inl ⟨hA 0 (by omega), fun j _ _ => hA j (by omega)⟩) (Or.inl ⟨hA 1 (by omega), fun j _ _ => hA j (by omega)⟩) (Or.inl ⟨hA 3 (by omega), fun j _ _ => hA j (by omega)⟩) (Or.inl ⟨hA 4 (by omega), fun j _ _ => hA j (by omega)⟩) (Or.inl ⟨hA 5 (by omega), fun j _ _ => hA j (by omega)⟩) (Or.inl ⟨hA 6 (by omega), fun j _ _ => hA j (by omega)⟩) (Or.inl ⟨hA 7 (by omega), fun j _ _ => hA j (by omega)⟩) ⟨hA 2 (by omega), hA 8 (by omega), fun j _ => hA j (by omega)⟩
  · rw [if_neg h1]; exact h

theorem RIc.up {s : Nat → Int32} {k : Nat} {v : Int32} (h : RIc s) (hk : k ≠ 0) (hv : ∀ c, c < cN s 0 → (k = 10 + c → ∃ p, p ≤ 6 ∧ v = nI p) ∧ (k = 14 + c → ∃ p, p ≤ 9 ∧ v = nI p) ∧ (k = 18 + c → ∃ p, 1 ≤ p ∧ p ≤ 9 ∧ v = nI p) ∧ (k = 22 + c → ∃ p, p ≤ 9 ∧ v = nI p) ∧ ∀ q, q < 4 → k = 26 + 4 * c + q → ∃ p, p ≤ 9 ∧ v = nI p) : RIc (upd s k v) := by
  intro c hc
  rw [show cN (upd s k v) 0 = cN s 0 from cN_eq (upd_n (fun z => hk z.symm))] at hc
  obtain ⟨a1, a2, a3, a4, a5⟩ := h c hc
  obtain ⟨v1, v2, v3, v4, v5⟩ := hv c hc
  refine ⟨?_, ?_, ?_, ?_, fun q hq => ?_⟩
  · by_cases z : k = 10 + c
    · subst z; rw [upd_e]; exact v1 rfl
    · rw [upd_n (fun y => z y.symm)]; exact a1
  · by_cases z : k = 14 + c
    · subst z; rw [upd_e]; exact v2 rfl
    · rw [upd_n (fun y => z y.symm)]; exact a2
  · by_cases z : k = 18 + c
    · subst z; rw [upd_e]; exact v3 rfl
    · rw [upd_n (fun y => z y.symm)]; exact a3
  · by_cases z : k = 22 + c
    · subst z; rw [upd_e]; exact v4 rfl
    · rw [upd_n (fun y => z y.symm)]; exact a4
  · by_cases z : k = 26 + 4 * c + q
    · subst z; rw [upd_e]; exact v5 q hq rfl
    · rw [upd_n (fun y => z y.symm)]; exact a5 q hq

theorem RI.row {s : Nat → Int32} (h : RI s) {c k v : Int32} : RI (s_row s c k v) := by
  unfold s_row
  by_cases h1 : ((0 ≤ c ∧ c < s 0) ∧ 0 ≤ k ∧ k ≤ 3) ∧ (0 ≤ v ∧ v ≤ 9) ∧ s (10 + c.toNatClampNeg) = 6
  · rw [if_pos h1]
    have h04 := h.c0.2
    obtain ⟨q, hq, eq⟩ := i_2 (i := c) (n := cN s 0) (by omega) (by rw [← h.c0.1]; exact h1.1.1)
    have hcq : c.toNatClampNeg = q := by rw [eq, nI_clamp (by omega)]
    obtain ⟨r, -, hr2, er⟩ := i_btw (x := k) (a := 0) (b := 3) (by decide) h1.1.2
    obtain ⟨p, -, hp2, ep⟩ := i_btw (x := v) (a := 0) (b := 9) (by decide) h1.2.1
    have hkr : k.toNatClampNeg = r := by rw [er, nI_clamp (by omega)]
    rw [hcq, hkr]
    generalize hkk : 26 + 4 * q + r = kk
    have hA : ∀ j, j ≠ kk → upd s kk v j = s j := fun j hj => upd_n hj
    exact h.mst (Or.inl (hA 9 (by omega))) (Or.inr ⟨by rw [cN_eq (hA 0 (by omega))]; exact Nat.le_refl _, ⟨by rw [cN_eq (hA 0 (by omega)), hA 0 (by omega)]; exact h.c0.1, by rw [cN_eq (hA 0 (by omega))]; exact h04⟩, RIc.up h.2.2.2.1 (by omega) (fun c9 hc9 => ⟨fun z => by omega, fun z => by omega, fun z => by omega, fun z => by omega, fun q9 hq9 z => ⟨p, hp2, ep⟩⟩)⟩) (Or.inl ⟨hA 1 (by omega), fun j _ _ => hA j (by omega)⟩) (Or.inl ⟨hA 3 (by omega), fun j _ _ => hA j (by omega)⟩) (Or.inl ⟨hA 4 (by omega), fun j _ _ => hA j (by omega)⟩) (Or.inl ⟨hA 5 (by omega), fun j _ _ => hA j (by omega)⟩) (Or.inl ⟨hA 6 (by omega), fun j _ _ => hA j (by omega)⟩) (Or.inl ⟨hA 7 (by omega), fun j _ _ => hA j (by omega)⟩) ⟨hA 2 (by omega), hA 8 (by omega), fun j _ => hA j (by omega)⟩
  · rw [if_neg h1]; exact h

theorem RI.set {s : Nat → Int32} (h : RI s) {c w v : Int32} : RI (s_set s c w v) := by
  unfold s_set
  by_cases h1 : ((0 ≤ c ∧ c < s 0) ∧ 0 ≤ w ∧ w ≤ 1) ∧ 1 - w ≤ v ∧ v ≤ 9
  · rw [if_pos h1]
    have h04 := h.c0.2
    obtain ⟨q, hq, eq⟩ := i_2 (i := c) (n := cN s 0) (by omega) (by rw [← h.c0.1]; exact h1.1.1)
    have hcq : c.toNatClampNeg = q := by rw [eq, nI_clamp (by omega)]
    rw [hcq]
    obtain ⟨u, -, hu2, eu⟩ := i_btw (x := w) (a := 0) (b := 1) (by decide) h1.1.2
    have hvv : (w = 0 → ∃ p, 1 ≤ p ∧ p ≤ 9 ∧ v = nI p) ∧ (¬ w = 0 → ∃ p, p ≤ 9 ∧ v = nI p) := by
      refine ⟨fun z => i_btw (x := v) (a := 1) (b := 9) (by decide) ⟨by have h9 := h1.2.1; rw [z] at h9; exact h9, h1.2.2⟩, fun z => ?_⟩
      have hw1 : w = 1 := by
        rcases Nat.eq_zero_or_pos u with y | y
        · exact absurd (by rw [eu, y]; rfl) z
        · rw [eu, show u = 1 by omega]; rfl
      obtain ⟨p, -, hp, e⟩ := i_btw (x := v) (a := 0) (b := 9) (by decide) ⟨by have h9 := h1.2.1; rw [hw1] at h9; exact h9, h1.2.2⟩
      exact ⟨p, hp, e⟩
    have hkb : (w = 0 ∧ (if w = 0 then 18 + q else 22 + q) = 18 + q) ∨ (¬ w = 0 ∧ (if w = 0 then 18 + q else 22 + q) = 22 + q) := by
      by_cases z : w = 0
      · exact Or.inl ⟨z, if_pos z⟩
      · exact Or.inr ⟨z, if_neg z⟩
    generalize hkk : (if w = 0 then 18 + q else 22 + q) = kk
    have hA : ∀ j, j ≠ kk → upd s kk v j = s j := fun j hj => upd_n hj
    rw [hkk] at hkb
    exact h.mst (Or.inl (hA 9 (by omega))) (Or.inr ⟨by rw [cN_eq (hA 0 (by omega))]; exact Nat.le_refl _, ⟨by rw [cN_eq (hA 0 (by omega)), hA 0 (by omega)]; exact h.c0.1, by rw [cN_eq (hA 0 (by omega))]; exact h04⟩, RIc.up h.2.2.2.1 (by omega) (fun c9 hc9 => ⟨fun z => by omega, fun z => by omega, fun z => hkb.elim (fun y => hvv.1 y.1) (fun y => by omega), fun z => hkb.elim (fun y => by omega) (fun y => hvv.2 y.1), fun q9 hq9 z => by omega⟩)⟩) (Or.inl ⟨hA 1 (by omega), fun j _ _ => hA j (by omega)⟩) (Or.inl ⟨hA 3 (by omega), fun j _ _ => hA j (by omega)⟩) (Or.inl ⟨hA 4 (by omega), fun j _ _ => hA j (by omega)⟩) (Or.inl ⟨hA 5 (by omega), fun j _ _ => hA j (by omega)⟩) (Or.inl ⟨hA 6 (by omega), fun j _ _ => hA j (by omega)⟩) (Or.inl ⟨hA 7 (by omega), fun j _ _ => hA j (by omega)⟩) ⟨hA 2 (by omega), hA 8 (by omega), fun j _ => hA j (by omega)⟩
  · rw [if_neg h1]; exact h

theorem RI.slate {s : Nat → Int32} (h : RI s) {x z v : Int32} : RI (s_slate s x z v) := by
  unfold s_slate
  by_cases h0 : x = -1
  · rw [if_pos h0]
    have hA : ∀ j, j ≠ 4 → upd s 4 0 j = s j := fun j hj => upd_n hj
    exact h.mst (Or.inl (hA 9 (by omega))) (Or.inl ⟨hA 0 (by omega), fun j _ _ => hA j (by omega)⟩) (Or.inl ⟨hA 1 (by omega), fun j _ _ => hA j (by omega)⟩) (Or.inl ⟨hA 3 (by omega), fun j _ _ => hA j (by omega)⟩) (Or.inr ⟨cOk.of (n := 0) upd_e (by decide) (by decide), fun i hi => absurd hi (by rw [show cN (upd s 4 0) 4 = 0 from congrArg Int32.toNatClampNeg (upd_e (x := 0))]; exact Nat.not_lt_zero i)⟩) (Or.inl ⟨hA 5 (by omega), fun j _ _ => hA j (by omega)⟩) (Or.inl ⟨hA 6 (by omega), fun j _ _ => hA j (by omega)⟩) (Or.inl ⟨hA 7 (by omega), fun j _ _ => hA j (by omega)⟩) ⟨hA 2 (by omega), hA 8 (by omega), fun j _ => hA j (by omega)⟩
  rw [if_neg h0]
  by_cases h1 : ((0 ≤ x ∧ x ≤ 19) ∧ (0 ≤ z ∧ z ≤ 19) ∧ 0 ≤ v ∧ v ≤ 399) ∧ ¬ s 4 = 6
  · rw [if_pos h1]
    have hk := h.1 4 (by decide)
    have hb := h.2.1.2.2.2.2.1
    have hn : cN s 4 < 6 := by
      rcases Nat.lt_or_ge (cN s 4) 6 with z | z
      · exact z
      · exact absurd (by rw [hk, show cN s 4 = 6 by omega]; rfl) h1.2
    have hold := h.2.2.2.2.2.2.2.1
    generalize hN : cN s 4 = n at *
    obtain ⟨p, -, hp2, ep⟩ := i_btw (x := x) (a := 0) (b := 19) (by decide) h1.1.1
    obtain ⟨q, -, hq2, eq⟩ := i_btw (x := z) (a := 0) (b := 19) (by decide) h1.1.2.1
    obtain ⟨r, -, hr2, er⟩ := i_btw (x := v) (a := 0) (b := 399) (by decide) h1.1.2.2
    obtain ⟨t, ht⟩ : ∃ t, t = upd (upd (upd (upd s (77 + n) x) (83 + n) z) (89 + n) v) 4 (s 4 + 1) := ⟨_, rfl⟩
    have hA : ∀ j, j ≠ 4 ∧ j ≠ 77 + n ∧ j ≠ 83 + n ∧ j ≠ 89 + n → t j = s j := fun j hj => by rw [ht, upd_n hj.1, upd_n hj.2.2.2, upd_n hj.2.2.1, upd_n hj.2.1]
    have hc : t 4 = nI (n + 1) := by rw [ht, upd_e, hk, nI_1]
    have v1 : t (77 + n) = x := by rw [ht, upd_n (by omega), upd_n (by omega), upd_n (by omega), upd_e]
    have v2 : t (83 + n) = z := by rw [ht, upd_n (by omega), upd_n (by omega), upd_e]
    have v3 : t (89 + n) = v := by rw [ht, upd_n (by omega), upd_e]
    rw [← ht]
    exact h.mst (Or.inl (hA 9 (by omega))) (Or.inl ⟨hA 0 (by omega), fun j _ _ => hA j (by omega)⟩) (Or.inl ⟨hA 1 (by omega), fun j _ _ => hA j (by omega)⟩) (Or.inl ⟨hA 3 (by omega), fun j _ _ => hA j (by omega)⟩) (Or.inr ⟨cOk.of hc (by omega) (by decide), fun i hi => by
      rw [show cN t 4 = n + 1 from cN_of hc (by omega)] at hi
      by_cases hz : i = n
      · rw [hz, v1, v2, v3]; exact ⟨⟨p, hp2, ep⟩, ⟨q, hq2, eq⟩, ⟨r, hr2, er⟩⟩
      · rw [hA (77 + i) (by omega), hA (83 + i) (by omega), hA (89 + i) (by omega)]; exact hold i (by omega)⟩) (Or.inl ⟨hA 5 (by omega), fun j _ _ => hA j (by omega)⟩) (Or.inl ⟨hA 6 (by omega), fun j _ _ => hA j (by omega)⟩) (Or.inl ⟨hA 7 (by omega), fun j _ _ => hA j (by omega)⟩) ⟨hA 2 (by omega), hA 8 (by omega), fun j _ => hA j (by omega)⟩
  · rw [if_neg h1]; exact h

theorem RI.book {s : Nat → Int32} (h : RI s) {c v : Int32} : RI (s_book s c v) := by
  unfold s_book
  by_cases h0 : c = -1
  · rw [if_pos h0]
    have hA : ∀ j, j ≠ 6 → upd s 6 0 j = s j := fun j hj => upd_n hj
    exact h.mst (Or.inl (hA 9 (by omega))) (Or.inl ⟨hA 0 (by omega), fun j _ _ => hA j (by omega)⟩) (Or.inl ⟨hA 1 (by omega), fun j _ _ => hA j (by omega)⟩) (Or.inl ⟨hA 3 (by omega), fun j _ _ => hA j (by omega)⟩) (Or.inl ⟨hA 4 (by omega), fun j _ _ => hA j (by omega)⟩) (Or.inl ⟨hA 5 (by omega), fun j _ _ => hA j (by omega)⟩) (Or.inr ⟨cOk.of (n := 0) upd_e (by decide) (by decide), fun i hi => absurd hi (by rw [show cN (upd s 6 0) 6 = 0 from congrArg Int32.toNatClampNeg (upd_e (x := 0))]; exact Nat.not_lt_zero i)⟩) (Or.inl ⟨hA 7 (by omega), fun j _ _ => hA j (by omega)⟩) ⟨hA 2 (by omega), hA 8 (by omega), fun j _ => hA j (by omega)⟩
  rw [if_neg h0]
  by_cases h1 : (0 ≤ c ∧ c < s 0) ∧ (1 ≤ v ∧ v ≤ 99) ∧ ¬ s 6 = 8
  · rw [if_pos h1]
    have hk := h.1 6 (by decide)
    have hb := h.2.1.2.2.2.2.2.2.1
    have hn : cN s 6 < 8 := by
      rcases Nat.lt_or_ge (cN s 6) 8 with z | z
      · exact z
      · exact absurd (by rw [hk, show cN s 6 = 8 by omega]; rfl) h1.2.2
    have hold := h.2.2.2.2.2.2.2.2.2.1
    have h04 := h.c0.2
    generalize hN : cN s 6 = n at *
    obtain ⟨p, hp2, ep⟩ := i_2 (i := c) (n := cN s 0) (by omega) (by rw [← h.c0.1]; exact h1.1)
    obtain ⟨q, hq1, hq2, eq⟩ := i_btw (x := v) (a := 1) (b := 99) (by decide) h1.2.1
    obtain ⟨t, ht⟩ : ∃ t, t = upd (upd (upd s (101 + n) c) (109 + n) v) 6 (s 6 + 1) := ⟨_, rfl⟩
    have hA : ∀ j, j ≠ 6 ∧ j ≠ 101 + n ∧ j ≠ 109 + n → t j = s j := fun j hj => by rw [ht, upd_n hj.1, upd_n hj.2.2, upd_n hj.2.1]
    have hc : t 6 = nI (n + 1) := by rw [ht, upd_e, hk, nI_1]
    have v1 : t (101 + n) = c := by rw [ht, upd_n (by omega), upd_n (by omega), upd_e]
    have v2 : t (109 + n) = v := by rw [ht, upd_n (by omega), upd_e]
    have h00 : cN t 0 = cN s 0 := cN_eq (hA 0 (by omega))
    rw [← ht]
    exact h.mst (Or.inl (hA 9 (by omega))) (Or.inl ⟨hA 0 (by omega), fun j _ _ => hA j (by omega)⟩) (Or.inl ⟨hA 1 (by omega), fun j _ _ => hA j (by omega)⟩) (Or.inl ⟨hA 3 (by omega), fun j _ _ => hA j (by omega)⟩) (Or.inl ⟨hA 4 (by omega), fun j _ _ => hA j (by omega)⟩) (Or.inl ⟨hA 5 (by omega), fun j _ _ => hA j (by omega)⟩) (Or.inr ⟨cOk.of hc (by omega) (by decide), fun i hi => by
      rw [show cN t 6 = n + 1 from cN_of hc (by omega)] at hi
      rw [h00]
      by_cases hz : i = n
      · rw [hz, v1, v2]; exact ⟨⟨p, hp2, ep⟩, ⟨q, hq1, hq2, eq⟩⟩
      · rw [hA (101 + i) (by omega), hA (109 + i) (by omega)]; exact hold i (by omega)⟩) (Or.inl ⟨hA 7 (by omega), fun j _ _ => hA j (by omega)⟩) ⟨hA 2 (by omega), hA 8 (by omega), fun j _ => hA j (by omega)⟩
  · rw [if_neg h1]; exact h

theorem byB_4 {s : Nat → Int32} {p : Int32} {m : Nat → Int32} (h : byB s p m 4 = true) : (0 ≤ p ∧ p ≤ 99) ∧ ∀ k, k < 4 → -4 ≤ m k ∧ m k ≤ 4 := by
  have h3 := byB_s.mp h
  have h2 := byB_s.mp h3.1
  have h1 := byB_s.mp h2.1
  have h0 := byB_s.mp h1.1
  refine ⟨of_decide_eq_true h0.1, fun k hk => ?_⟩
  match k, hk with
  | 0, _ => exact h0.2.1
  | 1, _ => exact h1.2.1
  | 2, _ => exact h2.2.1
  | 3, _ => exact h3.2.1

theorem RI.buy {s : Nat → Int32} (h : RI s) {p a b c d : Int32} : RI (s_buy s p a b c d) := by
  unfold s_buy
  by_cases h0 : p = -1
  · rw [if_pos h0]
    have hA : ∀ j, j ≠ 3 → upd s 3 0 j = s j := fun j hj => upd_n hj
    exact h.mst (Or.inl (hA 9 (by omega))) (Or.inl ⟨hA 0 (by omega), fun j _ _ => hA j (by omega)⟩) (Or.inl ⟨hA 1 (by omega), fun j _ _ => hA j (by omega)⟩) (Or.inr ⟨cOk.of (n := 0) upd_e (by decide) (by decide), fun i hi => absurd hi (by rw [show cN (upd s 3 0) 3 = 0 from congrArg Int32.toNatClampNeg (upd_e (x := 0))]; exact Nat.not_lt_zero i)⟩) (Or.inl ⟨hA 4 (by omega), fun j _ _ => hA j (by omega)⟩) (Or.inl ⟨hA 5 (by omega), fun j _ _ => hA j (by omega)⟩) (Or.inl ⟨hA 6 (by omega), fun j _ _ => hA j (by omega)⟩) (Or.inl ⟨hA 7 (by omega), fun j _ _ => hA j (by omega)⟩) ⟨hA 2 (by omega), hA 8 (by omega), fun j _ => hA j (by omega)⟩
  rw [if_neg h0]
  by_cases h1 : byB s p (mk4 a b c d) 4 = true ∧ ¬ s 3 = 6
  · rw [if_pos h1]
    have hk := h.1 3 (by decide)
    have hb := h.2.1.2.2.2.1
    have hn : cN s 3 < 6 := by
      rcases Nat.lt_or_ge (cN s 3) 6 with z | z
      · exact z
      · exact absurd (by rw [hk, show cN s 3 = 6 by omega]; rfl) h1.2
    have hold := h.2.2.2.2.2.2.1
    obtain ⟨hpp, hmm⟩ := byB_4 h1.1
    rw [show cN s 3 % 6 = cN s 3 from Nat.mod_eq_of_lt hn]
    generalize hN : cN s 3 = n at *
    obtain ⟨q, -, hq2, eq⟩ := i_btw (x := p) (a := 0) (b := 99) (by decide) hpp
    obtain ⟨t, ht⟩ : ∃ t, t = upd (upd (upd (upd (upd (upd s (47 + n) p) (53 + 4 * n) a) (53 + 4 * n + 1) b) (53 + 4 * n + 2) c) (53 + 4 * n + 3) d) 3 (s 3 + 1) := ⟨_, rfl⟩
    have hA : ∀ j, j ≠ 3 ∧ j ≠ 47 + n ∧ (j < 53 + 4 * n ∨ 53 + 4 * n + 3 < j) → t j = s j := fun j hj => by rw [ht, upd_n hj.1, upd_n (by omega), upd_n (by omega), upd_n (by omega), upd_n (by omega), upd_n hj.2.1]
    have hc : t 3 = nI (n + 1) := by rw [ht, upd_e, hk, nI_1]
    have v1 : t (47 + n) = p := by rw [ht, upd_n (by omega), upd_n (by omega), upd_n (by omega), upd_n (by omega), upd_n (by omega), upd_e]
    have v2 : ∀ k, k < 4 → t (53 + 4 * n + k) = mk4 a b c d k := by
      intro k hk
      match k, hk with
      | 0, _ => rw [Nat.add_zero, ht, upd_n (by omega), upd_n (by omega), upd_n (by omega), upd_n (by omega), upd_e]; rfl
      | 1, _ => rw [ht, upd_n (by omega), upd_n (by omega), upd_n (by omega), upd_e]; rfl
      | 2, _ => rw [ht, upd_n (by omega), upd_n (by omega), upd_e]; rfl
      | 3, _ => rw [ht, upd_n (by omega), upd_e]; rfl
    rw [← ht]
    exact h.mst (Or.inl (hA 9 (by omega))) (Or.inl ⟨hA 0 (by omega), fun j _ _ => hA j (by omega)⟩) (Or.inl ⟨hA 1 (by omega), fun j _ _ => hA j (by omega)⟩) (Or.inr ⟨cOk.of hc (by omega) (by decide), fun i hi => by
      rw [show cN t 3 = n + 1 from cN_of hc (by omega)] at hi
      by_cases hz : i = n
      · rw [hz, v1]; exact ⟨⟨q, hq2, eq⟩, fun k hk4 => by rw [v2 k hk4]; exact hmm k hk4⟩
      · rw [hA (47 + i) (by omega)]; exact ⟨(hold i (by omega)).1, fun k hk4 => by rw [hA _ (by omega)]; exact (hold i (by omega)).2 k hk4⟩⟩) (Or.inl ⟨hA 4 (by omega), fun j _ _ => hA j (by omega)⟩) (Or.inl ⟨hA 5 (by omega), fun j _ _ => hA j (by omega)⟩) (Or.inl ⟨hA 6 (by omega), fun j _ _ => hA j (by omega)⟩) (Or.inl ⟨hA 7 (by omega), fun j _ _ => hA j (by omega)⟩) ⟨hA 2 (by omega), hA 8 (by omega), fun j _ => hA j (by omega)⟩
  · rw [if_neg h1]; exact h

theorem RI.coin {s : Nat → Int32} (h : RI s) {k v b p : Int32} : RI (s_coin s k v b p) := by
  unfold s_coin
  by_cases h1 : (0 ≤ k ∧ k ≤ 6) ∧ ((0 ≤ v ∧ v ≤ 9) ∧ (1 ≤ b ∧ b ≤ 9) ∧ 0 ≤ p ∧ p ≤ 9) ∧ ¬ s 0 = 4
  · rw [if_pos h1]
    have hk := h.1 0 (by decide)
    have hb := h.2.1.1
    have hn : cN s 0 < 4 := by
      rcases Nat.lt_or_ge (cN s 0) 4 with z | z
      · exact z
      · exact absurd (by rw [hk, show cN s 0 = 4 by omega]; rfl) h1.2.2
    have hold := h.2.2.2.1
    generalize hN : cN s 0 = n at *
    obtain ⟨k9, -, hk2, ek⟩ := i_btw (x := k) (a := 0) (b := 6) (by decide) h1.1
    obtain ⟨v9, -, hv2, ev⟩ := i_btw (x := v) (a := 0) (b := 9) (by decide) h1.2.1.1
    obtain ⟨b9, hb1, hb2, eb⟩ := i_btw (x := b) (a := 1) (b := 9) (by decide) h1.2.1.2.1
    obtain ⟨p9, -, hp2, ep⟩ := i_btw (x := p) (a := 0) (b := 9) (by decide) h1.2.1.2.2
    obtain ⟨t, ht⟩ : ∃ t, t = upd (xZf (upd (upd (upd (upd s (10 + n) k) (14 + n) v) (18 + n) b) (22 + n) p) (26 + 4 * n) 4) 0 (s 0 + 1) := ⟨_, rfl⟩
    have hz0 : ∀ j, ¬ (26 + 4 * n ≤ j ∧ j < 26 + 4 * n + 4) → j ≠ 0 → t j = upd (upd (upd (upd s (10 + n) k) (14 + n) v) (18 + n) b) (22 + n) p j := fun j hj h0 => by rw [ht, upd_n h0]; exact if_neg hj
    have hA : ∀ j, j ≠ 0 ∧ j ≠ 10 + n ∧ j ≠ 14 + n ∧ j ≠ 18 + n ∧ j ≠ 22 + n ∧ (j < 26 + 4 * n ∨ 26 + 4 * n + 3 < j) → t j = s j := fun j hj => by rw [hz0 j (by omega) hj.1, upd_n (by omega), upd_n (by omega), upd_n (by omega), upd_n (by omega)]
    have hc : t 0 = nI (n + 1) := by rw [ht, upd_e, hk, nI_1]
    have v1 : t (10 + n) = k := by rw [hz0 _ (by omega) (by omega), upd_n (by omega), upd_n (by omega), upd_n (by omega), upd_e]
    have v2 : t (14 + n) = v := by rw [hz0 _ (by omega) (by omega), upd_n (by omega), upd_n (by omega), upd_e]
    have v3 : t (18 + n) = b := by rw [hz0 _ (by omega) (by omega), upd_n (by omega), upd_e]
    have v4 : t (22 + n) = p := by rw [hz0 _ (by omega) (by omega), upd_e]
    have v5 : ∀ q, q < 4 → t (26 + 4 * n + q) = nI 0 := fun q hq => by rw [ht, upd_n (by omega)]; exact if_pos (by omega)
    rw [← ht]
    have h00 : cN t 0 = n + 1 := cN_of hc (by omega)
    exact h.mst (Or.inl (hA 9 (by omega))) (Or.inr ⟨by rw [h00, hN]; omega, cOk.of hc (by omega) (by decide), fun c hcc => by
      rw [h00] at hcc
      by_cases hz : c = n
      · subst hz; rw [v1, v2, v3, v4]; exact ⟨⟨k9, hk2, ek⟩, ⟨v9, hv2, ev⟩, ⟨b9, hb1, hb2, eb⟩, ⟨p9, hp2, ep⟩, fun q hq => ⟨0, by omega, v5 q hq⟩⟩
      · obtain ⟨a1, a2, a3, a4, a5⟩ := hold c (by omega)
        exact ⟨by rw [hA _ (by omega)]; exact a1, by rw [hA _ (by omega)]; exact a2, by rw [hA _ (by omega)]; exact a3, by rw [hA _ (by omega)]; exact a4, fun q hq => by rw [hA _ (by omega)]; exact a5 q hq⟩⟩) (Or.inl ⟨hA 1 (by omega), fun j _ _ => hA j (by omega)⟩) (Or.inl ⟨hA 3 (by omega), fun j _ _ => hA j (by omega)⟩) (Or.inl ⟨hA 4 (by omega), fun j _ _ => hA j (by omega)⟩) (Or.inl ⟨hA 5 (by omega), fun j _ _ => hA j (by omega)⟩) (Or.inl ⟨hA 6 (by omega), fun j _ _ => hA j (by omega)⟩) (Or.inl ⟨hA 7 (by omega), fun j _ _ => hA j (by omega)⟩) ⟨hA 2 (by omega), hA 8 (by omega), fun j _ => hA j (by omega)⟩
  · rw [if_neg h1]; exact h
