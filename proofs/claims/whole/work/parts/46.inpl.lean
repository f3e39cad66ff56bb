/-! the class: a row of coins written in place -/
/-- where the row s holds column j of coin q -/
def ixC (j q : Nat) : Nat := if j < 4 then 10 + 4 * j + q else 26 + 4 * q + (j - 4)
theorem ixC_i {j q m c : Nat} (hj : j < 8) (hm : m < 8) (hq : q < 4) (hc : c < 4) : ixC m c = ixC j q ↔ m = j ∧ c = q := by
  unfold ixC
  split <;> split <;> omega
theorem ixC_b {j q : Nat} (hj : j < 8) (hq : q < 4) : 10 ≤ ixC j q ∧ ixC j q < 42 := by
  unfold ixC
  split <;> omega
theorem coin_put {nx : Nat} {sh : Nat → Nat × Nat} {P : Nat → Nat → Option Nat} {I : Nat → Nat → Int32} {s : Nat → Int32} (h : xWN nx sh P I s) (hR : RI s) {q j : Nat} {v : Int32} (hq : q < cN s 0) (hj : j < 8) : xWN nx sh P (xup I 69 (q * 8 + j) v) (upd s (ixC j q) v) := by
  have h04 := hR.c0.2
  obtain ⟨y1, y2⟩ := ixC_b (j := j) (q := q) hj (by omega)
  obtain ⟨I1, hI1⟩ : ∃ I1, I1 = xup I 69 (q * 8 + j) v := ⟨_, rfl⟩
  have hF : xFrm [69] I I1 := by rw [hI1]; exact xFrs xFrm.rf
  have hA : ∀ i, (i < 10 ∨ 42 ≤ i) → upd s (ixC j q) v i = s i := fun i hi => upd_n (by omega)
  have h0 : cN (upd s (ixC j q) v) 0 = cN s 0 := cN_eq (hA 0 (by omega))
  have key : ∀ m c, m < 8 → c < cN s 0 → I 69 (c * 8 + m) = s (ixC m c) → I1 69 (c * 8 + m) = upd s (ixC j q) v (ixC m c) := fun m c hm hc e => by
    rw [hI1, xup_at]
    unfold upd
    by_cases hz : m = j ∧ c = q
    · rw [if_pos ⟨rfl, by rw [hz.1, hz.2]⟩, if_pos ((ixC_i hj hm (by omega) (by omega)).mpr hz)]
    · rw [if_neg (fun z => hz (by omega)), if_neg (fun z => hz ((ixC_i hj hm (by omega) (by omega)).mp z))]; exact e
  obtain ⟨⟨tTape, tCoins, tWares, tBuys, tSlates, tPlans, tBooked⟩, ⟨cTape, cCoins, cWares, cBuys, cSlates, cPlans, cBooked⟩, hW7, hW9, hL⟩ := id h
  rw [← hI1]
  refine h.mst hR (Or.inl ⟨hF 66 (by decide), hF 67 (by decide), hA 7 (by omega), fun i _ _ => hA i (by omega)⟩) (Or.inr ⟨by rw [h0]; exact tCoins.other (hF 68 (by decide)), fun c hc => ?_⟩) (Or.inl ⟨hF 70 (by decide), hF 71 (by decide), hA 1 (by omega), fun i _ _ => hA i (by omega)⟩) (Or.inl ⟨hF 72 (by decide), hF 73 (by decide), hA 3 (by omega), fun i _ _ => hA i (by omega)⟩) (Or.inl ⟨hF 74 (by decide), hF 75 (by decide), hA 4 (by omega), fun i _ _ => hA i (by omega)⟩) (Or.inl ⟨hF 76 (by decide), hF 77 (by decide), hA 5 (by omega), fun i _ _ => hA i (by omega)⟩) (Or.inl ⟨hF 78 (by decide), hF 79 (by decide), hA 6 (by omega), fun i _ _ => hA i (by omega)⟩) ((congrFun (hF 65 (by decide)) 7).trans (hW7.trans (hA 2 (by omega)).symm)) ((congrFun (hF 65 (by decide)) 9).trans (hW9.trans (hA 9 (by omega)).symm)) ⟨fun a ha => hF a (fun z => by simp only [List.mem_cons, List.not_mem_nil, or_false] at z; omega), hA 8 (by omega), fun i hi => hA i (by omega)⟩
  rw [h0] at hc
  obtain ⟨z1, z2, z3, z4, z5⟩ := cCoins c hc
  refine ⟨?_, ?_, ?_, ?_, fun k hk => ?_⟩
  · have := key 0 c (by decide) hc z1; exact this
  · have := key 1 c (by decide) hc z2; exact this
  · have := key 2 c (by decide) hc z3; exact this
  · have := key 3 c (by decide) hc z4; exact this
  · have e : ixC (4 + k) c = 26 + 4 * c + k := by unfold ixC; rw [if_neg (by omega)]; omega
    have := key (4 + k) c (by omega) hc (by rw [e]; exact z5 k hk)
    rw [e] at this
    exact this
/-! fractions -/
theorem eu_h {g l : Nat} (hl : 0 < l) (hle : l ≤ g) : 2 * (g % l) ≤ g := by
  have h1 := Nat.mod_lt g hl
  have h2 := Nat.div_add_mod g l
  have h3 : 1 ≤ g / l := (Nat.one_le_div_iff hl).mpr hle
  have h4 : l * 1 ≤ l * (g / l) := Nat.mul_le_mul_left l h3
  omega
theorem eu_s {g l i : Nat} (hl : 0 < l) (hle : l ≤ g) (h1 : g * 2 ^ (i / 2) < 2 ^ 32) (h2 : l * 2 ^ ((i + 1) / 2) < 2 ^ 32) : l * 2 ^ ((i + 1) / 2) < 2 ^ 32 ∧ (g % l) * 2 ^ ((i + 1 + 1) / 2) < 2 ^ 32 := by
  refine ⟨h2, ?_⟩
  have e : (i + 1 + 1) / 2 = i / 2 + 1 := by omega
  rw [e, Nat.pow_succ]
  have h3 := Nat.mul_le_mul_right (2 ^ (i / 2)) (eu_h hl hle)
  have h4 : g % l * (2 ^ (i / 2) * 2) = 2 * (g % l) * 2 ^ (i / 2) := by rw [Nat.mul_comm (2 ^ (i / 2)) 2, ← Nat.mul_assoc, Nat.mul_comm (g % l) 2]
  omega
