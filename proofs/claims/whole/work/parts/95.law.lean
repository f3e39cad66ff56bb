/-! the law: what holds between two calls -/
abbrev Y_law (nm : String) : xY := (⟨RL, nm, ""⟩, cL_law, 4, some .boolean)
abbrev lwL (i : Nat) : List (Option Value) := [some (.ref 2), some (.ref 64), some (.ref 127), some (.int (nI i))]
theorem xX.more {g : xG} {y : xY} {d k n k2 n2 : Nat} {Q : Option Value → xS → Prop} {pc : Nat} {ls : List (Option Value)} {st : List Value} {σ : xS} (h : xX g y d k n Q pc ls st σ) (hk : k ≤ k2 := by omega) (hn : n ≤ n2 := by omega) : xX g y d k2 n2 Q pc ls st σ := fun p R e s m args below meth c F Qf hr lsA H locs cells slots hl hH hlo hc hs => h p R e s m args below meth c F Qf hr lsA H locs cells slots hl hH hlo (by omega) (by omega)
/-- between two calls: both hold the same state, the same image, the same acts -/
def xIv (nx : Nat) (sh : Nat → Nat × Nat) (P : Nat → Nat → Option Nat) (I : Nat → Nat → Int32) : Prop := 144 ≤ nx ∧ xFx sh P ∧ RI (I 128) ∧ xWN nx sh P I (I 128) ∧ xKE sh P I ∧ I 64 2 = I 127 3 ∧ (¬ I 127 3 = 0 → RI (I 129) ∧ xWK nx sh P I (I 129)) ∧ ∃ n, n ≤ 20 ∧ I 125 1 = nI n ∧ I 127 30 = nI n ∧ ∀ j, j < n → I 126 j = I 143 j
/-- the law goes on behind a call -/
def xLp (g : xG) (nm : String) (Q : Option Value → xS → Prop) (i k n : Nat) : Prop := ∀ (nx : Nat) (sh : Nat → Nat × Nat) (P : Nat → Nat → Option Nat) (I : Nat → Nat → Int32), xIv nx sh P I → xX g (Y_law nm) 30 k n Q 1322 (lwL i) [] (nx, sh, P, I)
theorem xIv.nx {nx : Nat} {sh : Nat → Nat × Nat} {P : Nat → Nat → Option Nat} {I : Nat → Nat → Int32} (h : xIv nx sh P I) : 144 ≤ nx := h.1
theorem xIv.fx {nx : Nat} {sh : Nat → Nat × Nat} {P : Nat → Nat → Option Nat} {I : Nat → Nat → Int32} (h : xIv nx sh P I) : xFx sh P := h.2.1
theorem xIv.ri {nx : Nat} {sh : Nat → Nat × Nat} {P : Nat → Nat → Option Nat} {I : Nat → Nat → Int32} (h : xIv nx sh P I) : RI (I 128) := h.2.2.1
theorem xIv.wn {nx : Nat} {sh : Nat → Nat × Nat} {P : Nat → Nat → Option Nat} {I : Nat → Nat → Int32} (h : xIv nx sh P I) : xWN nx sh P I (I 128) := h.2.2.2.1
theorem xIv.ke {nx : Nat} {sh : Nat → Nat × Nat} {P : Nat → Nat → Option Nat} {I : Nat → Nat → Int32} (h : xIv nx sh P I) : xKE sh P I := h.2.2.2.2.1
theorem xKE.fr {sh : Nat → Nat × Nat} {P : Nat → Nat → Option Nat} {I I1 : Nat → Nat → Int32} (h : xKE sh P I) (e : ∀ b, 82 ≤ b → b < 96 → I1 b = I b) : xKE sh P I1 := by
  obtain ⟨m1, m2, m3, m4, m5, m6, m7, d1, d2, d3, d4, d5, d6, d7⟩ := h
  exact ⟨m1, m2, m3, m4, m5, m6, m7, d1.other (e 82 (by decide) (by decide)), d2.other (e 84 (by decide) (by decide)), d3.other (e 86 (by decide) (by decide)), d4.other (e 88 (by decide) (by decide)), d5.other (e 90 (by decide) (by decide)), d6.other (e 92 (by decide) (by decide)), d7.other (e 94 (by decide) (by decide))⟩
theorem xIv.ac {nx : Nat} {sh : Nat → Nat × Nat} {P : Nat → Nat → Option Nat} {I I1 : Nat → Nat → Int32} (h : xIv nx sh P I) (e : ∀ b, 64 = b ∨ (65 ≤ b ∧ b < 80) ∨ (81 ≤ b ∧ b < 96) ∨ b = 128 ∨ b = 129 ∨ 144 ≤ b → I1 b = I b) (e3 : I1 127 3 = I 127 3) (ha : ∃ n, n ≤ 20 ∧ I1 125 1 = nI n ∧ I1 127 30 = nI n ∧ ∀ j, j < n → I1 126 j = I1 143 j) : xIv nx sh P I1 := by
  obtain ⟨h1, h2, h3, h4, h5, h6, h7, -⟩ := h
  have e8 : I1 128 = I 128 := e 128 (by omega)
  refine ⟨h1, h2, by rw [e8]; exact h3, by rw [e8]; exact h4.fr (fun a ha => e a (by omega)), h5.fr (fun b b1 b2 => e b (by omega)), by rw [e 64 (by omega), e3]; exact h6, fun hz => ?_, ha⟩
  rw [e3] at hz
  rw [e 129 (by omega)]
  exact ⟨(h7 hz).1, (h7 hz).2.fr (fun a ha => e a (by omega))⟩
theorem xIv.fr {nx : Nat} {sh : Nat → Nat × Nat} {P : Nat → Nat → Option Nat} {I I1 : Nat → Nat → Int32} (h : xIv nx sh P I) (e : ∀ b, 64 = b ∨ (65 ≤ b ∧ b < 80) ∨ (81 ≤ b ∧ b < 96) ∨ b = 125 ∨ b = 126 ∨ b = 128 ∨ b = 129 ∨ 143 ≤ b → I1 b = I b) (e3 : I1 127 3 = I 127 3) (e30 : I1 127 30 = I 127 30) : xIv nx sh P I1 := by
  refine h.ac (fun b hb => e b (by omega)) e3 ?_
  obtain ⟨n, n1, n2, n3, n4⟩ := h.2.2.2.2.2.2.2
  exact ⟨n, n1, by rw [e 125 (by omega)]; exact n2, by rw [e30]; exact n3, by rw [e 126 (by omega), e 143 (by omega)]; exact n4⟩
/-- behind a question to the class -/
theorem xIv.cq {nx : Nat} {sh : Nat → Nat × Nat} {P : Nat → Nat → Option Nat} {I I1 : Nat → Nat → Int32} {l : List Nat} (h : xIv nx sh P I) (hF : xFrm l I I1) (hl : ∀ b ∈ l, b = 80 ∨ (97 ≤ b ∧ b < 125) := by decide) : xIv nx sh P I1 := h.fr (fun b hb => hF b (fun z => by have := hl b z; omega)) (by rw [hF 127 (fun z => by have := hl 127 z; omega)]) (by rw [hF 127 (fun z => by have := hl 127 z; omega)])
/-- behind a question to the reference -/
theorem xIv.rq {nx : Nat} {sh : Nat → Nat × Nat} {P : Nat → Nat → Option Nat} {I I1 : Nat → Nat → Int32} {l : List Nat} (h : xIv nx sh P I) (hF : xFrm l I I1) (e8 : I1 128 = I 128) (e3 : I1 127 3 = I 127 3) (e30 : I1 127 30 = I 127 30) (hl : ∀ b ∈ l, b = 127 ∨ b = 128 ∨ (130 ≤ b ∧ b < 143) := by decide) : xIv nx sh P I1 := h.fr (fun b hb => by
  by_cases h8 : b = 128
  · rw [h8]; exact e8
  · exact hF b (fun z => by have := hl b z; omega)) e3 e30
/-- behind a telling call -/
theorem xIv.tl {nx : Nat} {sh : Nat → Nat × Nat} {P : Nat → Nat → Option Nat} {I I1 : Nat → Nat → Int32} {I2 : Nat → Nat → Int32} {l : List Nat} {t : Nat → Int32} (h : xIv nx sh P I) (hW : xWN nx sh P I1 t) (hF1 : xFrm l I I1) (e2 : I2 128 = t) (hF2 : xFrm [128] I1 I2) (hR : RI t) (hl : ∀ b ∈ l, 65 ≤ b ∧ b < 80 := by decide) : xIv nx sh P I2 := by
  obtain ⟨h1, h2, h3, h4, h5, h6, h7, n, n1, n2, n3, n4⟩ := h
  have e : ∀ b, ¬ b = 128 → ¬ (65 ≤ b ∧ b < 80) → I2 b = I b := fun b hb hb2 => (hF2 b (fun z => hb (List.mem_singleton.mp z))).trans (hF1 b (fun z => hb2 (hl b z)))
  refine ⟨h1, h2, by rw [e2]; exact hR, by rw [e2]; exact hW.fl hF2, h5.fr (fun b b1 b2 => e b (by omega) (by omega)), by rw [e 64 (by omega) (by omega), e 127 (by omega) (by omega)]; exact h6, fun hz => ?_, n, n1, by rw [e 125 (by omega) (by omega)]; exact n2, by rw [e 127 (by omega) (by omega)]; exact n3, by rw [e 126 (by omega) (by omega), e 143 (by omega) (by omega)]; exact n4⟩
  rw [e 127 (by omega) (by omega)] at hz
  rw [e 129 (by omega) (by omega)]
  exact ⟨(h7 hz).1, (h7 hz).2.fr (fun a ha => e a (by omega) (by omega))⟩
theorem a_trace_c {f f2 : Nat → Int32} {n : Nat} {x : Int32} (hn : n ≤ 20) (h : ∀ j, j < n → f j = f2 j) : a_trace f (nI n) x = a_trace f2 (nI n) x := by
  unfold a_trace
  have hm : (if nI n < 20 then nI n else (20 : Int32)) = nI n := by
    by_cases hz : n < 20
    · exact if_pos (nI_lt (b := 20) hz (by decide))
    · rw [show n = 20 by omega]; rfl
  rw [hm]
  by_cases hx : 0 ≤ x ∧ x ≤ nI n - 1
  · rw [if_pos hx, if_pos hx]
    by_cases h0 : n = 0
    · subst h0
      exact absurd (Int32.le_trans hx.1 hx.2) (by decide)
    · have e : nI n - 1 = nI (n - 1) := nI_subN (a := n) (b := 1) (by omega)
      rw [e] at hx
      obtain ⟨p, h2, h3, h4⟩ := i_btw (x := x) (a := 0) (b := n - 1) (by omega) hx
      rw [h4, nI_clamp (by omega)]
      exact h p (by omega)
  · rw [if_neg hx, if_neg hx]
theorem xKE.gr {nx : Nat} {sh sh1 : Nat → Nat × Nat} {P P1 : Nat → Nat → Option Nat} {I J : Nat → Nat → Int32} (h : xKE sh P I) (hn : 144 ≤ nx) (hS : ∀ b, b < nx → sh1 b = sh b) (hP : ∀ b k, b < nx → ¬ (b = 65 ∧ k = 8) → P1 b k = P b k) (hJ : ∀ b, b < nx → b ∉ [65, 66, 97, 98, 99] → J b = I b) : xKE sh1 P1 J := by
  obtain ⟨m1, m2, m3, m4, m5, m6, m7, d1, d2, d3, d4, d5, d6, d7⟩ := h
  have g1 := hJ 82 (by omega) (by decide)
  have g2 := hJ 84 (by omega) (by decide)
  have g3 := hJ 86 (by omega) (by decide)
  have g4 := hJ 88 (by omega) (by decide)
  have g5 := hJ 90 (by omega) (by decide)
  have g6 := hJ 92 (by omega) (by decide)
  have g7 := hJ 94 (by omega) (by decide)
  exact ⟨m1, m2, m3, m4, m5, m6, m7, d1.gr (hS 82 (by omega)) (hS 83 (by omega)) (hP 82 2 (by omega) (by omega)) (by rw [g1]) (by rw [g1]) (by rw [g1]; exact d1.2.2.2.2.2.1) (Nat.le_refl _), d2.gr (hS 84 (by omega)) (hS 85 (by omega)) (hP 84 2 (by omega) (by omega)) (by rw [g2]) (by rw [g2]) (by rw [g2]; exact d2.2.2.2.2.2.1) (Nat.le_refl _), d3.gr (hS 86 (by omega)) (hS 87 (by omega)) (hP 86 2 (by omega) (by omega)) (by rw [g3]) (by rw [g3]) (by rw [g3]; exact d3.2.2.2.2.2.1) (Nat.le_refl _), d4.gr (hS 88 (by omega)) (hS 89 (by omega)) (hP 88 2 (by omega) (by omega)) (by rw [g4]) (by rw [g4]) (by rw [g4]; exact d4.2.2.2.2.2.1) (Nat.le_refl _), d5.gr (hS 90 (by omega)) (hS 91 (by omega)) (hP 90 2 (by omega) (by omega)) (by rw [g5]) (by rw [g5]) (by rw [g5]; exact d5.2.2.2.2.2.1) (Nat.le_refl _), d6.gr (hS 92 (by omega)) (hS 93 (by omega)) (hP 92 2 (by omega) (by omega)) (by rw [g6]) (by rw [g6]) (by rw [g6]; exact d6.2.2.2.2.2.1) (Nat.le_refl _), d7.gr (hS 94 (by omega)) (hS 95 (by omega)) (hP 94 2 (by omega) (by omega)) (by rw [g7]) (by rw [g7]) (by rw [g7]; exact d7.2.2.2.2.2.1) (Nat.le_refl _)⟩
theorem xWK.gr {nx nx1 : Nat} {sh sh1 : Nat → Nat × Nat} {P P1 : Nat → Nat → Option Nat} {I J : Nat → Nat → Int32} {u : Nat → Int32} (h : xWK nx sh P I u) (hn : 144 ≤ nx) (hS : ∀ b, b < nx → sh1 b = sh b) (hP : ∀ b k, b < nx → ¬ (b = 65 ∧ k = 8) → P1 b k = P b k) (hJ : ∀ b, b < nx → b ∉ [65, 66, 97, 98, 99] → J b = I b) (hle : nx ≤ nx1) : xWK nx1 sh1 P1 J u := by
  obtain ⟨⟨d1, d2, d3, d4, d5, d6, d7⟩, hC, w7, w9, hL⟩ := h
  have g1 := hJ 82 (by omega) (by decide)
  have g2 := hJ 84 (by omega) (by decide)
  have g3 := hJ 86 (by omega) (by decide)
  have g4 := hJ 88 (by omega) (by decide)
  have g5 := hJ 90 (by omega) (by decide)
  have g6 := hJ 92 (by omega) (by decide)
  have g7 := hJ 94 (by omega) (by decide)
  have g81 := hJ 81 (by omega) (by decide)
  refine ⟨⟨d1.gr (hS 82 (by omega)) (hS 83 (by omega)) (hP 82 2 (by omega) (by omega)) (by rw [g1]) (by rw [g1]) (by rw [g1]; exact d1.2.2.2.2.2.1) (Nat.le_refl _), d2.gr (hS 84 (by omega)) (hS 85 (by omega)) (hP 84 2 (by omega) (by omega)) (by rw [g2]) (by rw [g2]) (by rw [g2]; exact d2.2.2.2.2.2.1) (Nat.le_refl _), d3.gr (hS 86 (by omega)) (hS 87 (by omega)) (hP 86 2 (by omega) (by omega)) (by rw [g3]) (by rw [g3]) (by rw [g3]; exact d3.2.2.2.2.2.1) (Nat.le_refl _), d4.gr (hS 88 (by omega)) (hS 89 (by omega)) (hP 88 2 (by omega) (by omega)) (by rw [g4]) (by rw [g4]) (by rw [g4]; exact d4.2.2.2.2.2.1) (Nat.le_refl _), d5.gr (hS 90 (by omega)) (hS 91 (by omega)) (hP 90 2 (by omega) (by omega)) (by rw [g5]) (by rw [g5]) (by rw [g5]; exact d5.2.2.2.2.2.1) (Nat.le_refl _), d6.gr (hS 92 (by omega)) (hS 93 (by omega)) (hP 92 2 (by omega) (by omega)) (by rw [g6]) (by rw [g6]) (by rw [g6]; exact d6.2.2.2.2.2.1) (Nat.le_refl _), d7.gr (hS 94 (by omega)) (hS 95 (by omega)) (hP 94 2 (by omega) (by omega)) (by rw [g7]) (by rw [g7]) (by rw [g7]; exact d7.2.2.2.2.2.1) (Nat.le_refl _)⟩, ?_, by rw [g81]; exact w7, by rw [g81]; exact w9, hL.mv hle (hP 81 8 (by omega) (by omega)) (fun a a1 a2 => ⟨hJ a a2 (fun z => by simp at z; omega), funext (fun k => hP a k a2 (by omega)), hS a a2⟩)⟩
  unfold xCK
  rw [hJ 83 (by omega) (by decide), hJ 85 (by omega) (by decide), hJ 87 (by omega) (by decide), hJ 89 (by omega) (by decide), hJ 91 (by omega) (by decide), hJ 93 (by omega) (by decide), hJ 95 (by omega) (by decide)]
  exact hC
theorem xPt_8 : ∀ q ∈ xPtT, ¬ (q.1 = 65 ∧ q.2.1 = 8) := by decide +kernel
theorem fx_gr {nx : Nat} {sh sh1 : Nat → Nat × Nat} {P P1 : Nat → Nat → Option Nat} (h : xFx sh P) (hn : 144 ≤ nx) (hS : ∀ b, b < nx → sh1 b = sh b) (hP : ∀ b k, b < nx → ¬ (b = 65 ∧ k = 8) → P1 b k = P b k) : xFx sh1 P1 := ⟨fun i hi => by rw [hS (64 + i) (by omega)]; exact h.1 i hi, fun q hq => by rw [hP q.1 q.2.1 (by have := xPt_l q hq; omega) (xPt_8 q hq)]; exact h.2 q hq⟩
/-- behind a land told to both -/
theorem lnd_fin {nx nx1 : Nat} {sh sh1 : Nat → Nat × Nat} {P P1 : Nat → Nat → Option Nat} {I J : Nat → Nat → Int32} {I2 : Nat → Nat → Int32} {a a2 : Int32} {s : Nat → Int32} (h : xIv nx sh P I) (hs : s = I 128) (hle : nx ≤ nx1) (hS : ∀ b, b < nx → sh1 b = sh b) (hP : ∀ b k, b < nx → ¬ (b = 65 ∧ k = 8) → P1 b k = P b k) (hJ : ∀ b, b < nx → b ∉ [65, 66, 97, 98, 99] → J b = I b)
    (hor : (s 2 = 5 ∧ a = -4 ∧ xWN nx1 sh1 P1 J s) ∨ (¬ s 2 = 5 ∧ ∃ res sp, ldF (txt s) (cN s 7) 10 0 res sp ∧ (res = none → a = -10 - nI sp) ∧ (∀ l, res = some l → a = s 2) ∧ ∀ t, xLt s t res → xWN nx1 sh1 P1 J t))
    (hF2 : xFrm [127, 128] J I2) (hD2 : xFd [4, 5, 6, 7, 8] J I2)
    (hor2 : (s 2 = 5 ∧ a2 = -4 ∧ I2 128 = s) ∨ (¬ s 2 = 5 ∧ ∃ res sp, ldF (txt s) (cN s 7) 10 0 res sp ∧ sp ≤ 200 ∧ RI (I2 128) ∧ (∀ j, j < 217 → j ≠ 2 → j ≠ 7 → j ≠ 8 → I2 128 j = s j) ∧ I2 128 7 = 0 ∧
      ((res = none ∧ a2 = -10 - nI sp ∧ I2 128 2 = s 2 ∧ I2 128 8 = s 8 ∧ tlO (I2 128) 217 9 = tlO s 217 9 ∧ tlO (I2 128) 222 0 = tlO s 222 0 ∧ ∀ f, LK (I2 128) f = LK s f) ∨
       ∃ cs cv, res = some cs ∧ csOf cs cv ∧ a2 = s 2 ∧ I2 128 2 = s 2 + 1 ∧ I2 128 8 = s 2 ∧ tlO (I2 128) 217 9 = lst 0 9 cv ∧ tlO (I2 128) 222 0 = lst 1 0 cv ∧ ∀ f, LK (I2 128) f = dl f 0 cv))) : a = a2 ∧ xIv nx1 sh1 P1 I2 := by
  obtain ⟨h1, h2, h3, h4, h5, h6, h7, n, n1, n2, n3, n4⟩ := h
  have hW : a = a2 ∧ RI (I2 128) ∧ xWN nx1 sh1 P1 J (I2 128) := by
    rcases hor with ⟨b1, b2, b3⟩ | ⟨b1, res, sp, b2, b3, b4, b5⟩
    · rcases hor2 with ⟨c1, c2, c3⟩ | ⟨c1, -⟩
      · rw [c3]; exact ⟨b2.trans c2.symm, by rw [hs]; exact h3, b3⟩
      · exact absurd b1 c1
    · rcases hor2 with ⟨c1, -⟩ | ⟨c1, res2, sp2, c2, -, c4, c5, c6, c7⟩
      · exact absurd c1 b1
      · obtain ⟨rfl, rfl⟩ := b2.un c2
        rcases c7 with ⟨d1, d2, d3⟩ | ⟨cs, cv, d1, d2, d3, d4⟩
        · exact ⟨(b3 d1).trans d2.symm, c4, b5 _ ⟨c4, c5, c6, Or.inl ⟨d1, d3⟩⟩⟩
        · exact ⟨(b4 cs d1).trans d3.symm, c4, b5 _ ⟨c4, c5, c6, Or.inr ⟨cs, cv, d1, d2, d4⟩⟩⟩
  obtain ⟨w1, w2, w3⟩ := hW
  have e : ∀ b, b < nx → ¬ b = 127 → ¬ b = 128 → b ∉ [65, 66, 97, 98, 99] → I2 b = I b := fun b hb q1 q2 q3 => (hF2 b (fun z => by simp at z; omega)).trans (hJ b hb q3)
  have e7 : ∀ k, k ∉ [4, 5, 6, 7, 8] → I2 127 k = I 127 k := fun k hk => (hD2 k hk).trans (congrFun (hJ 127 (by omega) (by decide)) k)
  have e9 : I2 129 = I 129 := e 129 (by omega) (by omega) (by omega) (by decide)
  refine ⟨w1, by omega, fx_gr h2 h1 hS hP, w2, w3.fl hF2, (h5.gr h1 hS hP hJ).fr (fun b b1 b2 => hF2 b (fun z => by simp at z; omega)), by rw [e 64 (by omega) (by omega) (by omega) (by decide), e7 3 (by decide)]; exact h6, fun hz => ?_, n, n1, by rw [e 125 (by omega) (by omega) (by omega) (by decide)]; exact n2, by rw [e7 30 (by decide)]; exact n3, by rw [e 126 (by omega) (by omega) (by omega) (by decide), e 143 (by omega) (by omega) (by omega) (by decide)]; exact n4⟩
  rw [e7 3 (by decide)] at hz
  rw [e9]
  exact ⟨(h7 hz).1, ((h7 hz).2.gr h1 hS hP hJ hle).fr (fun a ha => hF2 a (fun z => by simp at z; omega))⟩
