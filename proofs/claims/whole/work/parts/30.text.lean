/-! reading a text: a machine of small steps that both readers go by; what a text means -/
theorem muW_e {T T' : Nat → Int32} {en : Nat} (h : hrT T en = hrT T' en) : muW T en = muW T' en := by funext a b c; unfold muW; rw [h]
theorem muS_e {T T' : Nat → Int32} {en : Nat} (h : hrT T en = hrT T' en) : muS T en = muS T' en := by funext a b c; unfold muS; rw [muW_e h]
theorem fgL_e {T T' : Nat → Int32} {en : Nat} {wr : Bool} (h : hrT T en = hrT T' en) : ∀ m k v sp, fgL T en wr m k v sp = fgL T' en wr m k v sp
  | 0, _, _, _ => rfl
  | m + 1, k, v, sp => by
    unfold fgL
    rw [h, fgL_e h m]
theorem fgW_e {T T' : Nat → Int32} {en : Nat} (h : hrT T en = hrT T' en) : fgW T en = fgW T' en := by funext a b; unfold fgW; rw [h]
theorem fgS_e {T T' : Nat → Int32} {en : Nat} (h : hrT T en = hrT T' en) : fgS T en = fgS T' en := by funext a b; unfold fgS; rw [fgW_e h, fgL_e h]
theorem spL_e {T T' : Nat → Int32} {en i sp : Nat} {wr : Bool} (h : hrT T en = hrT T' en) : ∀ k, spL T en i sp wr k = spL T' en i sp wr k
  | 0 => rfl
  | k + 1 => by
    unfold spL
    rw [spL_e h k, muS_e h, muW_e h]
theorem amS_e {T T' : Nat → Int32} {en i sp : Nat} (h : hrT T en = hrT T' en) : ∀ m k, amS T en i sp m k = amS T' en i sp m k
  | 0, _ => rfl
  | m + 1, k => by
    unfold amS
    rw [h, amS_e h m]
theorem amS_or {T : Nat → Int32} {en i sp : Nat} : ∀ m k, (amS T en i sp m k = (-1, sp) ∧ ∀ q, k ≤ q → q < k + m → ¬ hrT T en sp = sg i q) ∨ ∃ q, k ≤ q ∧ q < k + m ∧ amS T en i sp m k = (nI q, sp + 1) ∧ hrT T en sp = sg i q ∧ ∀ r, k ≤ r → r < q → ¬ hrT T en sp = sg i r
  | 0, k => Or.inl ⟨rfl, fun q h1 h2 => by omega⟩
  | m + 1, k => by
    unfold amS
    by_cases h : hrT T en sp = sg i k
    · rw [if_pos h]
      exact Or.inr ⟨k, by omega, by omega, rfl, h, fun r h1 h2 => by omega⟩
    · rw [if_neg h]
      rcases amS_or (T := T) (en := en) (i := i) (sp := sp) m (k + 1) with ⟨h1, h2⟩ | ⟨q, h1, h2, h3, h4, h5⟩
      · refine Or.inl ⟨h1, fun q h3 h4 => ?_⟩
        by_cases hq : q = k
        · rw [hq]; exact h
        · exact h2 q (by omega) (by omega)
      · refine Or.inr ⟨q, by omega, by omega, h3, h4, fun r h6 h7 => ?_⟩
        by_cases hq : r = k
        · rw [hq]; exact h
        · exact h5 r (by omega) h7
theorem hrT_lt {T : Nat → Int32} {en sp : Nat} (h : ¬ hrT T en sp = -1) : sp < en := by
  unfold hrT at h
  by_cases z : sp < en
  · exact z
  · rw [if_neg z] at h; exact absurd rfl h
theorem hrT_in {T : Nat → Int32} {en sp : Nat} (h : sp < en) : hrT T en sp = T sp := if_pos h
theorem fgL_true {T : Nat → Int32} {en : Nat} : ∀ m k v sp, fgL T en true m k v sp = (v, sp)
  | 0, _, _, _ => rfl
  | m + 1, k, v, sp => by unfold fgL; rw [if_neg (fun z => by cases z.1)]
theorem fgS_w {T : Nat → Int32} {en sp : Nat} {wr : Bool} (h : fgW T en sp wr = true) : fgS T en sp wr = (0, sp) := by unfold fgS; rw [h]; exact fgL_true _ _ _ _
theorem isF_of {x : Int32} (h : isF x = true) : ∃ d, d < 10 ∧ x = nI (48 + d) := by
  have h1 := of_decide_eq_true h
  obtain ⟨p, h2, h3, h4⟩ := i_btw (x := x) (a := 48) (b := 57) (by decide) h1
  exact ⟨p - 48, by omega, by rw [h4]; congr 1; omega⟩
theorem fg_dg {v d : Nat} : (10 : Int32) * nI v + nI (48 + d) - 48 = nI (10 * v + d) := by
  rw [show (10 : Int32) * nI v = nI (10 * v) from pk_mul 10 v, nI_add, show (48 : Int32) = nI 48 from rfl, pk_sub (by omega)]
  congr 1; omega
theorem fgL_bd {T : Nat → Int32} {en : Nat} {wr : Bool} : ∀ m k v sp, k + m = 2 → (k = 0 → v = 0) → (k = 1 → v ≤ 9) → v ≤ 99 → ∃ n, n ≤ 99 ∧ (fgL T en wr m k (nI v) sp).1 = nI n
  | 0, k, v, sp, _, _, _, h => ⟨v, h, rfl⟩
  | m + 1, k, v, sp, hk, h0, h1, h => by
    unfold fgL
    split
    · rename_i hc
      obtain ⟨d, hd, he⟩ := isF_of hc.2.1
      rw [he, fg_dg]
      exact fgL_bd m (k + 1) (10 * v + d) (sp + 1) (by omega) (by omega) (by omega) (by omega)
    · exact ⟨v, h, rfl⟩
/-- a number that is read -/
theorem fgS_bd {T : Nat → Int32} {en sp : Nat} {wr : Bool} : ∃ n, n ≤ 99 ∧ (fgS T en sp wr).1 = nI n := fgL_bd 2 0 0 sp rfl (fun _ => rfl) (fun h => by omega) (by omega)
theorem fgL_en {T : Nat → Int32} {en : Nat} {wr : Bool} : ∀ m k v sp, sp ≤ en → (fgL T en wr m k v sp).2 ≤ en
  | 0, _, _, _, h => h
  | m + 1, k, v, sp, h => by
    unfold fgL
    split
    · rename_i hc
      refine fgL_en m _ _ _ ?_
      have : ¬ hrT T en sp = -1 := fun z => by rw [z] at hc; exact absurd hc.2.1 (by decide)
      have := hrT_lt this
      omega
    · exact h
theorem fgS_en {T : Nat → Int32} {en sp : Nat} {wr : Bool} (h : sp ≤ en) : (fgS T en sp wr).2 ≤ en := fgL_en _ _ _ _ h
theorem fgL_ge {T : Nat → Int32} {en : Nat} {wr : Bool} : ∀ m k v sp, sp ≤ (fgL T en wr m k v sp).2
  | 0, _, _, _ => Nat.le_refl _
  | m + 1, k, v, sp => by
    unfold fgL
    split
    · have := fgL_ge (T := T) (en := en) (wr := wr) m (k + 1) (10 * v + hrT T en sp - 48) (sp + 1); omega
    · exact Nat.le_refl _
theorem fgS_ge {T : Nat → Int32} {en sp : Nat} {wr : Bool} : sp ≤ (fgS T en sp wr).2 := fgL_ge _ _ _ _
theorem fgS_gt {T : Nat → Int32} {en sp : Nat} {wr : Bool} (h : fgW T en sp wr = false) : sp + 1 ≤ (fgS T en sp wr).2 := by
  have h2 := h
  unfold fgW at h2
  rw [Bool.or_eq_false_iff] at h2
  have h3 : isF (hrT T en sp) = true := by have := h2.2; cases hz : isF (hrT T en sp) <;> simp_all
  unfold fgS
  rw [h]
  unfold fgL
  rw [if_pos ⟨rfl, h3, Or.inl rfl⟩]
  exact fgL_ge _ _ _ _
/-! a TEST -/
def tsA (T : Nat → Int32) (en sp : Nat) : Int32 × Nat := amS T en 4 sp (xTl.getD 4 0) 0
def tsB (T : Nat → Int32) (en sp : Nat) : Int32 × Nat := amS T en 5 (tsA T en sp).2 (xTl.getD 5 0) 0
def tsF (T : Nat → Int32) (en sp : Nat) : Int32 × Nat := fgS T en (tsB T en sp).2 false
/-- is it wrong; the spot behind; the class's sign for it; the reference's step -/
def tsW (T : Nat → Int32) (en sp : Nat) : Bool := decide ((tsA T en sp).1 = -1) || (decide ((tsB T en sp).1 = -1) || fgW T en (tsB T en sp).2 false)
def tsS (T : Nat → Int32) (en sp : Nat) : Nat := if (tsA T en sp).1 = -1 then (tsA T en sp).2 else if (tsB T en sp).1 = -1 then (tsB T en sp).2 else (tsF T en sp).2
def tsT (T : Nat → Int32) (en sp : Nat) : Int32 := 128 + ((tsA T en sp).1 * 3 + (tsB T en sp).1) * 100 + (tsF T en sp).1
def tsR (T : Nat → Int32) (en sp : Nat) : Int32 := (tsA T en sp).1 + 8 * (tsB T en sp).1 + 32 * (tsF T en sp).1
theorem nI_nm1 {n : Nat} (h : n < 2 ^ 31) : ¬ nI n = -1 := fun z => by have := nI_pos h; rw [z] at this; exact this (by decide)
theorem ts_a {T : Nat → Int32} {en sp : Nat} : tsA T en sp = (-1, sp) ∨ ∃ a, a < 6 ∧ tsA T en sp = (nI a, sp + 1) ∧ sp < en := by
  rcases amS_or (T := T) (en := en) (i := 4) (sp := sp) (xTl.getD 4 0) 0 with ⟨h1, -⟩ | ⟨q, -, h2, h3, h4, -⟩
  · exact Or.inl h1
  · have h2 : q < 6 := by have e : xTl.getD 4 0 = 6 := rfl; omega
    refine Or.inr ⟨q, h2, h3, hrT_lt (T := T) ?_⟩
    rw [h4]
    exact (by decide +kernel : ∀ q : Fin 6, ¬ sg 4 q.1 = -1) ⟨q, h2⟩
theorem ts_b {T : Nat → Int32} {en sp : Nat} : tsB T en sp = (-1, (tsA T en sp).2) ∨ ∃ b, b < 3 ∧ tsB T en sp = (nI b, (tsA T en sp).2 + 1) ∧ (tsA T en sp).2 < en := by
  rcases amS_or (T := T) (en := en) (i := 5) (sp := (tsA T en sp).2) (xTl.getD 5 0) 0 with ⟨h1, -⟩ | ⟨q, -, h2, h3, h4, -⟩
  · exact Or.inl h1
  · have h2 : q < 3 := by have e : xTl.getD 5 0 = 3 := rfl; omega
    refine Or.inr ⟨q, h2, h3, hrT_lt (T := T) ?_⟩
    rw [h4]
    exact (by decide +kernel : ∀ q : Fin 3, ¬ sg 5 q.1 = -1) ⟨q, h2⟩
/-- a TEST that is right -/
theorem ts_ok {T : Nat → Int32} {en sp : Nat} (h : tsW T en sp = false) : ∃ a b v, a < 6 ∧ b < 3 ∧ v ≤ 99 ∧ tsA T en sp = (nI a, sp + 1) ∧ tsB T en sp = (nI b, sp + 2) ∧ (tsF T en sp).1 = nI v ∧ tsS T en sp = (tsF T en sp).2 ∧ sp + 3 ≤ tsS T en sp ∧ tsS T en sp ≤ en ∧ tsT T en sp = nI (128 + (a * 3 + b) * 100 + v) ∧ tsR T en sp = nI (a + 8 * b + 32 * v) := by
  unfold tsW at h
  rw [Bool.or_eq_false_iff, Bool.or_eq_false_iff] at h
  obtain ⟨h1, h2, h3⟩ := h
  have h1 := of_decide_eq_false h1
  have h2 := of_decide_eq_false h2
  rcases ts_a (T := T) (en := en) (sp := sp) with ha | ⟨a, ha6, ha, -⟩
  · exact absurd (congrArg Prod.fst ha) h1
  rcases ts_b (T := T) (en := en) (sp := sp) with hb | ⟨b, hb3, hb, hb4⟩
  · exact absurd (congrArg Prod.fst hb) h2
  have hb' : tsB T en sp = (nI b, sp + 2) := by rw [hb, ha]
  obtain ⟨v, hv, hv2⟩ := fgS_bd (T := T) (en := en) (sp := (tsB T en sp).2) (wr := false)
  have hS : tsS T en sp = (tsF T en sp).2 := by unfold tsS; rw [if_neg h1, if_neg h2]
  have hg := fgS_gt h3
  have he : (tsF T en sp).2 ≤ en := by
    refine fgS_en ?_
    rw [ha] at hb4
    rw [hb']
    show sp + 2 ≤ en
    have : sp + 1 < en := hb4
    omega
  refine ⟨a, b, v, ha6, hb3, hv, ha, hb', hv2, hS, ?_, by rw [hS]; exact he, ?_, ?_⟩
  · rw [hS]
    rw [hb'] at hg
    unfold tsF
    rw [hb']
    exact hg
  · have hv2 : (tsF T en sp).1 = nI v := hv2
    unfold tsT
    rw [hv2, ha, hb']
    show (128 : Int32) + (nI a * 3 + nI b) * 100 + nI v = _
    rw [show nI a * (3 : Int32) = nI (a * 3) from pk_mul a 3, nI_add, show nI (a * 3 + b) * (100 : Int32) = nI ((a * 3 + b) * 100) from pk_mul _ 100, show (128 : Int32) + nI ((a * 3 + b) * 100) = nI (128 + (a * 3 + b) * 100) from nI_add 128 _, nI_add]
  · have hv2 : (tsF T en sp).1 = nI v := hv2
    unfold tsR
    rw [hv2, ha, hb']
    show nI a + 8 * nI b + 32 * nI v = _
    rw [show (8 : Int32) * nI b = nI (8 * b) from pk_mul 8 b, show (32 : Int32) * nI v = nI (32 * v) from pk_mul 32 v, nI_add, nI_add]
theorem ts_le {T : Nat → Int32} {en sp : Nat} (h : sp ≤ en) : sp ≤ tsS T en sp ∧ tsS T en sp ≤ en ∧ tsS T en sp ≤ sp + 4 := by
  unfold tsS tsF
  rcases ts_a (T := T) (en := en) (sp := sp) with ha | ⟨a, ha6, ha, h2⟩
  · rw [ha]; exact ⟨Nat.le_refl _, h, by show sp ≤ sp + 4; omega⟩
  · rw [if_neg (by rw [ha]; exact nI_nm1 (by omega))]
    rcases ts_b (T := T) (en := en) (sp := sp) with hb | ⟨b, hb3, hb, hb4⟩
    · rw [hb, ha]; exact ⟨by show sp ≤ sp + 1; omega, by show sp + 1 ≤ en; omega, by show sp + 1 ≤ sp + 4; omega⟩
    · rw [if_neg (by rw [hb]; exact nI_nm1 (by omega)), hb, ha]
      rw [ha] at hb4
      have hb4 : sp + 1 < en := hb4
      have h5 := fgS_ge (T := T) (en := en) (sp := sp + 1 + 1) (wr := false)
      have h6 := fgS_en (T := T) (en := en) (sp := sp + 1 + 1) (wr := false) (by omega)
      have h7 := fgS_le (T := T) (en := en) (sp := sp + 1 + 1) (wr := false)
      exact ⟨by show sp ≤ (fgS T en (sp + 1 + 1) false).2; omega, h6, by show (fgS T en (sp + 1 + 1) false).2 ≤ _; omega⟩
/-! the machine: ahead of an F (0), behind one (1), at a FAULT (2), behind an E (3); the spot, what is open (true a !), the signs told -/
abbrev PQ := Nat × Nat × List Bool × List Int32
def pS (T : Nat → Int32) (en : Nat) : PQ → PQ
  | (0, sp, tu, cd) => if hrT T en sp = 33 ∨ hrT T en sp = 40 then (if 5 ≤ tu.length then (2, sp, [], []) else (0, sp + 1, decide (hrT T en sp = 33) :: tu, cd ++ [hrT T en sp])) else if tsW T en sp = true then (2, tsS T en sp, [], []) else (1, tsS T en sp, tu, cd ++ [tsT T en sp])
  | (1, sp, true :: tu, cd) => (1, sp, tu, cd)
  | (1, sp, false :: tu, cd) => if hrT T en sp = 41 then (1, sp + 1, tu, cd ++ [41]) else if hrT T en sp = 124 then (0, sp + 1, false :: tu, cd ++ [124]) else if hrT T en sp = 38 then (0, sp + 1, false :: tu, cd) else (2, sp, [], [])
  | (1, sp, [], cd) => if hrT T en sp = 124 then (0, sp + 1, [], cd ++ [124]) else if hrT T en sp = 38 then (0, sp + 1, [], cd) else (3, sp, [], cd)
  | q => q
def itr {α : Type} (f : α → α) : Nat → α → α
  | 0, q => q
  | n + 1, q => itr f n (f q)
theorem itr_a {α : Type} {f : α → α} : ∀ n m q, itr f (n + m) q = itr f m (itr f n q)
  | 0, m, q => by rw [Nat.zero_add]; rfl
  | n + 1, m, q => by rw [show n + 1 + m = (n + m) + 1 by omega]; exact itr_a n m (f q)
theorem itr_f {α : Type} {f : α → α} {q : α} (h : f q = q) : ∀ n, itr f n q = q
  | 0 => rfl
  | n + 1 => by show itr f n (f q) = q; rw [h]; exact itr_f h n
def pR (T : Nat → Int32) (en : Nat) (q r : PQ) : Prop := ∃ n, itr (pS T en) n q = r
theorem pR.rf {T : Nat → Int32} {en : Nat} {q : PQ} : pR T en q q := ⟨0, rfl⟩
theorem pR.st {T : Nat → Int32} {en : Nat} {q r : PQ} (h : pS T en q = r) : pR T en q r := ⟨1, h⟩
theorem pR.tr {T : Nat → Int32} {en : Nat} {q r t : PQ} (h : pR T en q r) (h2 : pR T en r t) : pR T en q t := by
  obtain ⟨n, h⟩ := h
  obtain ⟨m, h2⟩ := h2
  exact ⟨n + m, by rw [itr_a, h, h2]⟩
theorem pR.un {T : Nat → Int32} {en : Nat} {q r t : PQ} (h : pR T en q r) (h2 : pR T en q t) (hr : pS T en r = r) (ht : pS T en t = t) : r = t := by
  obtain ⟨n, h⟩ := h
  obtain ⟨m, h2⟩ := h2
  have e1 := itr_a (f := pS T en) n m q
  have e2 := itr_a (f := pS T en) m n q
  rw [h, itr_f hr] at e1
  rw [h2, itr_f ht, Nat.add_comm] at e2
  rw [← e1, e2]
theorem pS_2 {T : Nat → Int32} {en sp : Nat} {a : List Bool} {b : List Int32} : pS T en (2, sp, a, b) = (2, sp, a, b) := rfl
theorem pS_3 {T : Nat → Int32} {en sp : Nat} {a : List Bool} {b : List Int32} : pS T en (3, sp, a, b) = (3, sp, a, b) := rfl
theorem pS_0 {T : Nat → Int32} {en sp : Nat} {tu : List Bool} {cd : List Int32} : pS T en (0, sp, tu, cd) = if hrT T en sp = 33 ∨ hrT T en sp = 40 then (if 5 ≤ tu.length then (2, sp, [], []) else (0, sp + 1, decide (hrT T en sp = 33) :: tu, cd ++ [hrT T en sp])) else if tsW T en sp = true then (2, tsS T en sp, [], []) else (1, tsS T en sp, tu, cd ++ [tsT T en sp]) := rfl
theorem pS_f {T : Nat → Int32} {en sp : Nat} {tu : List Bool} {cd : List Int32} : pS T en (1, sp, false :: tu, cd) = if hrT T en sp = 41 then (1, sp + 1, tu, cd ++ [41]) else if hrT T en sp = 124 then (0, sp + 1, false :: tu, cd ++ [124]) else if hrT T en sp = 38 then (0, sp + 1, false :: tu, cd) else (2, sp, [], []) := rfl
theorem pS_n {T : Nat → Int32} {en sp : Nat} {cd : List Int32} : pS T en (1, sp, [], cd) = if hrT T en sp = 124 then (0, sp + 1, [], cd ++ [124]) else if hrT T en sp = 38 then (0, sp + 1, [], cd) else (3, sp, [], cd) := rfl
theorem pS_t {T : Nat → Int32} {en sp : Nat} {tu : List Bool} {cd : List Int32} : pS T en (1, sp, true :: tu, cd) = (1, sp, tu, cd) := rfl
