/-! the class: image, undo -/
/-- the tables of the world kept stand, whatever they hold -/
def xKE (sh : Nat → Nat × Nat) (P : Nat → Nat → Option Nat) (I : Nat → Nat → Int32) : Prop := ∃ m1 m2 m3 m4 m5 m6 m7 : Nat, xTb sh P I 82 83 1 100 m1 ∧ xTb sh P I 84 85 8 4 m2 ∧ xTb sh P I 86 87 1 5 m3 ∧ xTb sh P I 88 89 5 6 m4 ∧ xTb sh P I 90 91 3 6 m5 ∧ xTb sh P I 92 93 1 6 m6 ∧ xTb sh P I 94 95 2 8 m7
theorem xKE.of {nx : Nat} {sh : Nat → Nat × Nat} {P : Nat → Nat → Option Nat} {I : Nat → Nat → Int32} {s : Nat → Int32} (h : xWK nx sh P I s) : xKE sh P I := ⟨_, _, _, _, _, _, _, h.1⟩
theorem xLd.tk {nx : Nat} {sh : Nat → Nat × Nat} {P P' : Nat → Nat → Option Nat} {I I' : Nat → Nat → Int32} {w w' : Nat} {s : Nat → Int32} (h : xLd nx sh P I w s) (hp : P' w' 8 = P w 8) (he : ∀ a, 144 ≤ a → a < nx → I' a = I a ∧ P' a = P a ∧ sh a = sh a) : xLd nx sh P' I' w' s := by
  rcases h with ⟨h1, h2⟩ | ⟨h1, la, ar, cs, cv, h2, h3, h4⟩
  · exact Or.inl ⟨h1, hp.trans h2⟩
  · exact Or.inr ⟨h1, la, ar, cs, cv, hp.trans h2, h3.mv (Nat.le_refl _) he, h4⟩
theorem m_take_81 {g : xG} {nx : Nat} {sh : Nat → Nat × Nat} {P : Nat → Nat → Option Nat} {I : Nat → Nat → Int32} (hx : xFx sh P) {n1 n2 n3 n4 n5 n6 n7 m1 m2 m3 m4 m5 m6 m7 : Nat} (s1 : xTb sh P I 66 67 1 100 n1) (d1 : xTb sh P I 82 83 1 100 m1) (s2 : xTb sh P I 68 69 8 4 n2) (d2 : xTb sh P I 84 85 8 4 m2) (s3 : xTb sh P I 70 71 1 5 n3) (d3 : xTb sh P I 86 87 1 5 m3) (s4 : xTb sh P I 72 73 5 6 n4) (d4 : xTb sh P I 88 89 5 6 m4) (s5 : xTb sh P I 74 75 3 6 n5) (d5 : xTb sh P I 90 91 3 6 m5) (s6 : xTb sh P I 76 77 1 6 n6) (d6 : xTb sh P I 92 93 1 6 m6) (s7 : xTb sh P I 78 79 2 8 n7) (d7 : xTb sh P I 94 95 2 8 m7) : xMet g Y_World_takeOver 2 0 0 [.ref 81, .ref 65] (nx, sh, P, I) (fun r σ => ∃ I1 : Nat → Nat → Int32, r = none ∧ σ = (nx, sh, xrp P 81 8 (P 65 8), I1) ∧ xFrm [81, 82, 83, 84, 85, 86, 87, 88, 89, 90, 91, 92, 93, 94, 95] I I1 ∧ I1 81 7 = I 65 7 ∧ I1 81 9 = I 65 9 ∧ (xTb sh P I1 82 83 1 100 n1 ∧ ∀ j, j < 1 * 100 → I1 83 j = I 67 j) ∧ (xTb sh P I1 84 85 8 4 n2 ∧ ∀ j, j < 8 * 4 → I1 85 j = I 69 j) ∧ (xTb sh P I1 86 87 1 5 n3 ∧ ∀ j, j < 1 * 5 → I1 87 j = I 71 j) ∧ (xTb sh P I1 88 89 5 6 n4 ∧ ∀ j, j < 5 * 6 → I1 89 j = I 73 j) ∧ (xTb sh P I1 90 91 3 6 n5 ∧ ∀ j, j < 3 * 6 → I1 91 j = I 75 j) ∧ (xTb sh P I1 92 93 1 6 n6 ∧ ∀ j, j < 1 * 6 → I1 93 j = I 77 j) ∧ (xTb sh P I1 94 95 2 8 n7 ∧ ∀ j, j < 2 * 8 → I1 95 j = I 79 j)) := by
  cases hv : P 65 8 with
  | none => exact m_take_81_N hx s1 d1 s2 d2 s3 d3 s4 d4 s5 d5 s6 d6 s7 d7 hv
  | some la => exact m_take_81_S hx s1 d1 s2 d2 s3 d3 s4 d4 s5 d5 s6 d6 s7 d7 hv
theorem m_tkK {g : xG} {nx : Nat} {sh : Nat → Nat × Nat} {P : Nat → Nat → Option Nat} {I : Nat → Nat → Int32} (hx : xFx sh P) {s : Nat → Int32} (hW : xWN nx sh P I s) (hD : xKE sh P I): xMet g Y_World_takeOver 2 0 0 [.ref 81, .ref 65] (nx, sh, P, I) (fun r σ => ∃ (P1 : Nat → Nat → Option Nat) (I1 : Nat → Nat → Int32), r = none ∧ σ = (nx, sh, P1, I1) ∧ xFx sh P1 ∧ (∀ a k, ¬ (a = 81 ∧ k = 8) → P1 a k = P a k) ∧ xFrm [81, 82, 83, 84, 85, 86, 87, 88, 89, 90, 91, 92, 93, 94, 95] I I1 ∧ xWN nx sh P1 I1 s ∧ xWK nx sh P1 I1 s) := by
  obtain ⟨m1, m2, m3, m4, m5, m6, m7, d1, d2, d3, d4, d5, d6, d7⟩ := hD
  obtain ⟨⟨s1, s2, s3, s4, s5, s6, s7⟩, hC, w7, w9, hL⟩ := hW
  obtain ⟨c1, c2, c3, c4, c5, c6, c7⟩ := id hC
  have l1 := s1.2.2.2.2.2.2.1
  have l2 := s2.2.2.2.2.2.2.1
  have l3 := s3.2.2.2.2.2.2.1
  have l4 := s4.2.2.2.2.2.2.1
  have l5 := s5.2.2.2.2.2.2.1
  have l6 := s6.2.2.2.2.2.2.1
  have l7 := s7.2.2.2.2.2.2.1
  refine xMet.po (m_take_81 hx s1 d1 s2 d2 s3 d3 s4 d4 s5 d5 s6 d6 s7 d7) ?_
  rintro r σ ⟨I1, rfl, rfl, hF, e7, e9, r1, r2, r3, r4, r5, r6, r7⟩
  have hp : ∀ a k, ¬ (a = 81 ∧ k = 8) → xrp P 81 8 (P 65 8) a k = P a k := fun a k h => by
    by_cases ha : a = 81
    · rw [ha, xrp_s]
      unfold va_up
      rw [if_neg (fun z => h ⟨ha, z⟩)]
    · rw [xrp_n ha]
  have hpd : xrp P 81 8 (P 65 8) 81 8 = P 65 8 := by rw [xrp_s]; unfold va_up; rw [if_pos rfl]
  have he : ∀ a, 144 ≤ a → a < nx → I1 a = I a ∧ xrp P 81 8 (P 65 8) a = P a ∧ sh a = sh a := fun a ha _ => ⟨hF a (fun z => by have := (by decide : ∀ x ∈ [81, 82, 83, 84, 85, 86, 87, 88, 89, 90, 91, 92, 93, 94, 95], x < 144) a z; omega), xrp_n (by omega), rfl⟩
  exact ⟨_, I1, rfl, rfl, hx.P (fun a k h => hp a k (fun z => h ⟨Or.inr z.1, z.2⟩)), hp, hF, ⟨⟨(s1.other (hF 66 (by decide))).P (congrFun (xrp_n (by decide)) 2), (s2.other (hF 68 (by decide))).P (congrFun (xrp_n (by decide)) 2), (s3.other (hF 70 (by decide))).P (congrFun (xrp_n (by decide)) 2), (s4.other (hF 72 (by decide))).P (congrFun (xrp_n (by decide)) 2), (s5.other (hF 74 (by decide))).P (congrFun (xrp_n (by decide)) 2), (s6.other (hF 76 (by decide))).P (congrFun (xrp_n (by decide)) 2), (s7.other (hF 78 (by decide))).P (congrFun (xrp_n (by decide)) 2)⟩, by unfold xCN; rw [hF 67 (by decide), hF 69 (by decide), hF 71 (by decide), hF 73 (by decide), hF 75 (by decide), hF 77 (by decide), hF 79 (by decide)]; exact hC, (congrFun (hF 65 (by decide)) 7).trans w7, (congrFun (hF 65 (by decide)) 9).trans w9, hL.tk (congrFun (xrp_n (by decide)) 8) he⟩, ⟨⟨r1.1.P (congrFun (xrp_n (by decide)) 2), r2.1.P (congrFun (xrp_n (by decide)) 2), r3.1.P (congrFun (xrp_n (by decide)) 2), r4.1.P (congrFun (xrp_n (by decide)) 2), r5.1.P (congrFun (xrp_n (by decide)) 2), r6.1.P (congrFun (xrp_n (by decide)) 2), r7.1.P (congrFun (xrp_n (by decide)) 2)⟩, ⟨fun i hi => (r1.2 _ (by omega)).trans (c1 i hi), fun c hc => ⟨(r2.2 _ (by omega)).trans (c2 c hc).1, (r2.2 _ (by omega)).trans (c2 c hc).2.1, (r2.2 _ (by omega)).trans (c2 c hc).2.2.1, (r2.2 _ (by omega)).trans (c2 c hc).2.2.2.1, fun k hk => (r2.2 _ (by omega)).trans ((c2 c hc).2.2.2.2 k hk)⟩, fun i hi => (r3.2 _ (by omega)).trans (c3 i hi), fun i hi => ⟨(r4.2 _ (by omega)).trans (c4 i hi).1, fun k hk => (r4.2 _ (by omega)).trans ((c4 i hi).2 k hk)⟩, fun i hi => ⟨(r5.2 _ (by omega)).trans (c5 i hi).1, (r5.2 _ (by omega)).trans (c5 i hi).2.1, (r5.2 _ (by omega)).trans (c5 i hi).2.2⟩, fun i hi => (r6.2 _ (by omega)).trans (c6 i hi), fun i hi => ⟨(r7.2 _ (by omega)).trans (c7 i hi).1, (r7.2 _ (by omega)).trans (c7 i hi).2⟩⟩, e7.trans w7, e9.trans w9, hL.tk hpd he⟩⟩
theorem m_take_65 {g : xG} {nx : Nat} {sh : Nat → Nat × Nat} {P : Nat → Nat → Option Nat} {I : Nat → Nat → Int32} (hx : xFx sh P) {n1 n2 n3 n4 n5 n6 n7 m1 m2 m3 m4 m5 m6 m7 : Nat} (s1 : xTb sh P I 82 83 1 100 n1) (d1 : xTb sh P I 66 67 1 100 m1) (s2 : xTb sh P I 84 85 8 4 n2) (d2 : xTb sh P I 68 69 8 4 m2) (s3 : xTb sh P I 86 87 1 5 n3) (d3 : xTb sh P I 70 71 1 5 m3) (s4 : xTb sh P I 88 89 5 6 n4) (d4 : xTb sh P I 72 73 5 6 m4) (s5 : xTb sh P I 90 91 3 6 n5) (d5 : xTb sh P I 74 75 3 6 m5) (s6 : xTb sh P I 92 93 1 6 n6) (d6 : xTb sh P I 76 77 1 6 m6) (s7 : xTb sh P I 94 95 2 8 n7) (d7 : xTb sh P I 78 79 2 8 m7) : xMet g Y_World_takeOver 2 0 0 [.ref 65, .ref 81] (nx, sh, P, I) (fun r σ => ∃ I1 : Nat → Nat → Int32, r = none ∧ σ = (nx, sh, xrp P 65 8 (P 81 8), I1) ∧ xFrm [65, 66, 67, 68, 69, 70, 71, 72, 73, 74, 75, 76, 77, 78, 79] I I1 ∧ I1 65 7 = I 81 7 ∧ I1 65 9 = I 81 9 ∧ (xTb sh P I1 66 67 1 100 n1 ∧ ∀ j, j < 1 * 100 → I1 67 j = I 83 j) ∧ (xTb sh P I1 68 69 8 4 n2 ∧ ∀ j, j < 8 * 4 → I1 69 j = I 85 j) ∧ (xTb sh P I1 70 71 1 5 n3 ∧ ∀ j, j < 1 * 5 → I1 71 j = I 87 j) ∧ (xTb sh P I1 72 73 5 6 n4 ∧ ∀ j, j < 5 * 6 → I1 73 j = I 89 j) ∧ (xTb sh P I1 74 75 3 6 n5 ∧ ∀ j, j < 3 * 6 → I1 75 j = I 91 j) ∧ (xTb sh P I1 76 77 1 6 n6 ∧ ∀ j, j < 1 * 6 → I1 77 j = I 93 j) ∧ (xTb sh P I1 78 79 2 8 n7 ∧ ∀ j, j < 2 * 8 → I1 79 j = I 95 j)) := by
  cases hv : P 81 8 with
  | none => exact m_take_65_N hx s1 d1 s2 d2 s3 d3 s4 d4 s5 d5 s6 d6 s7 d7 hv
  | some la => exact m_take_65_S hx s1 d1 s2 d2 s3 d3 s4 d4 s5 d5 s6 d6 s7 d7 hv
theorem m_tkN {g : xG} {nx : Nat} {sh : Nat → Nat × Nat} {P : Nat → Nat → Option Nat} {I : Nat → Nat → Int32} (hx : xFx sh P) {s : Nat → Int32} (hW : xWK nx sh P I s) (hD : ∃ m1 m2 m3 m4 m5 m6 m7 : Nat, xTb sh P I 66 67 1 100 m1 ∧ xTb sh P I 68 69 8 4 m2 ∧ xTb sh P I 70 71 1 5 m3 ∧ xTb sh P I 72 73 5 6 m4 ∧ xTb sh P I 74 75 3 6 m5 ∧ xTb sh P I 76 77 1 6 m6 ∧ xTb sh P I 78 79 2 8 m7): xMet g Y_World_takeOver 2 0 0 [.ref 65, .ref 81] (nx, sh, P, I) (fun r σ => ∃ (P1 : Nat → Nat → Option Nat) (I1 : Nat → Nat → Int32), r = none ∧ σ = (nx, sh, P1, I1) ∧ xFx sh P1 ∧ (∀ a k, ¬ (a = 65 ∧ k = 8) → P1 a k = P a k) ∧ xFrm [65, 66, 67, 68, 69, 70, 71, 72, 73, 74, 75, 76, 77, 78, 79] I I1 ∧ xWK nx sh P1 I1 s ∧ xWN nx sh P1 I1 s) := by
  obtain ⟨m1, m2, m3, m4, m5, m6, m7, d1, d2, d3, d4, d5, d6, d7⟩ := hD
  obtain ⟨⟨s1, s2, s3, s4, s5, s6, s7⟩, hC, w7, w9, hL⟩ := hW
  obtain ⟨c1, c2, c3, c4, c5, c6, c7⟩ := id hC
  have l1 := s1.2.2.2.2.2.2.1
  have l2 := s2.2.2.2.2.2.2.1
  have l3 := s3.2.2.2.2.2.2.1
  have l4 := s4.2.2.2.2.2.2.1
  have l5 := s5.2.2.2.2.2.2.1
  have l6 := s6.2.2.2.2.2.2.1
  have l7 := s7.2.2.2.2.2.2.1
  refine xMet.po (m_take_65 hx s1 d1 s2 d2 s3 d3 s4 d4 s5 d5 s6 d6 s7 d7) ?_
  rintro r σ ⟨I1, rfl, rfl, hF, e7, e9, r1, r2, r3, r4, r5, r6, r7⟩
  have hp : ∀ a k, ¬ (a = 65 ∧ k = 8) → xrp P 65 8 (P 81 8) a k = P a k := fun a k h => by
    by_cases ha : a = 65
    · rw [ha, xrp_s]
      unfold va_up
      rw [if_neg (fun z => h ⟨ha, z⟩)]
    · rw [xrp_n ha]
  have hpd : xrp P 65 8 (P 81 8) 65 8 = P 81 8 := by rw [xrp_s]; unfold va_up; rw [if_pos rfl]
  have he : ∀ a, 144 ≤ a → a < nx → I1 a = I a ∧ xrp P 65 8 (P 81 8) a = P a ∧ sh a = sh a := fun a ha _ => ⟨hF a (fun z => by have := (by decide : ∀ x ∈ [65, 66, 67, 68, 69, 70, 71, 72, 73, 74, 75, 76, 77, 78, 79], x < 144) a z; omega), xrp_n (by omega), rfl⟩
  exact ⟨_, I1, rfl, rfl, hx.P (fun a k h => hp a k (fun z => h ⟨Or.inl z.1, z.2⟩)), hp, hF, ⟨⟨(s1.other (hF 82 (by decide))).P (congrFun (xrp_n (by decide)) 2), (s2.other (hF 84 (by decide))).P (congrFun (xrp_n (by decide)) 2), (s3.other (hF 86 (by decide))).P (congrFun (xrp_n (by decide)) 2), (s4.other (hF 88 (by decide))).P (congrFun (xrp_n (by decide)) 2), (s5.other (hF 90 (by decide))).P (congrFun (xrp_n (by decide)) 2), (s6.other (hF 92 (by decide))).P (congrFun (xrp_n (by decide)) 2), (s7.other (hF 94 (by decide))).P (congrFun (xrp_n (by decide)) 2)⟩, by unfold xCK; rw [hF 83 (by decide), hF 85 (by decide), hF 87 (by decide), hF 89 (by decide), hF 91 (by decide), hF 93 (by decide), hF 95 (by decide)]; exact hC, (congrFun (hF 81 (by decide)) 7).trans w7, (congrFun (hF 81 (by decide)) 9).trans w9, hL.tk (congrFun (xrp_n (by decide)) 8) he⟩, ⟨⟨r1.1.P (congrFun (xrp_n (by decide)) 2), r2.1.P (congrFun (xrp_n (by decide)) 2), r3.1.P (congrFun (xrp_n (by decide)) 2), r4.1.P (congrFun (xrp_n (by decide)) 2), r5.1.P (congrFun (xrp_n (by decide)) 2), r6.1.P (congrFun (xrp_n (by decide)) 2), r7.1.P (congrFun (xrp_n (by decide)) 2)⟩, ⟨fun i hi => (r1.2 _ (by omega)).trans (c1 i hi), fun c hc => ⟨(r2.2 _ (by omega)).trans (c2 c hc).1, (r2.2 _ (by omega)).trans (c2 c hc).2.1, (r2.2 _ (by omega)).trans (c2 c hc).2.2.1, (r2.2 _ (by omega)).trans (c2 c hc).2.2.2.1, fun k hk => (r2.2 _ (by omega)).trans ((c2 c hc).2.2.2.2 k hk)⟩, fun i hi => (r3.2 _ (by omega)).trans (c3 i hi), fun i hi => ⟨(r4.2 _ (by omega)).trans (c4 i hi).1, fun k hk => (r4.2 _ (by omega)).trans ((c4 i hi).2 k hk)⟩, fun i hi => ⟨(r5.2 _ (by omega)).trans (c5 i hi).1, (r5.2 _ (by omega)).trans (c5 i hi).2.1, (r5.2 _ (by omega)).trans (c5 i hi).2.2⟩, fun i hi => (r6.2 _ (by omega)).trans (c6 i hi), fun i hi => ⟨(r7.2 _ (by omega)).trans (c7 i hi).1, (r7.2 _ (by omega)).trans (c7 i hi).2⟩⟩, e7.trans w7, e9.trans w9, hL.tk hpd he⟩⟩
set_option maxHeartbeats 4000000 in
set_option maxRecDepth 100000 in
theorem m_C_image {g : xG} {nx : Nat} {sh : Nat → Nat × Nat} {P : Nat → Nat → Option Nat} {I : Nat → Nat → Int32} (hx : xFx sh P) {s : Nat → Int32} (hW : xWN nx sh P I s) (hR : RI s) (hKE : xKE sh P I) : xMet g Y_C_image 3 0 0 [.ref 64] (nx, sh, P, I) (fun r σ => ∃ (P1 : Nat → Nat → Option Nat) (I1 : Nat → Nat → Int32), r = some (.int (s 0)) ∧ σ = (nx, sh, P1, I1) ∧ xFx sh P1 ∧ (∀ a k, ¬ (a = 81 ∧ k = 8) → P1 a k = P a k) ∧ xFrm [64, 81, 82, 83, 84, 85, 86, 87, 88, 89, 90, 91, 92, 93, 94, 95] I I1 ∧ I1 64 2 = 1 ∧ (∀ j, j ≠ 2 → I1 64 j = I 64 j) ∧ xWN nx sh P1 I1 s ∧ xWK nx sh P1 I1 s) := by
  refine xMet.of [some (.ref 64)] (by decide +kernel) (Nat.le_of_ble_eq_true rfl) rfl ?_
  obtain ⟨⟨tTape, tCoins, tWares, tBuys, tSlates, tPlans, tBooked⟩, ⟨cTape, cCoins, cWares, cBuys, cSlates, cPlans, cBooked⟩, hW7, hW9, hL⟩ := id hW
  obtain ⟨⟨n0, b0, e0⟩, ⟨n1, b1, e1⟩, ⟨n2, b2, e2⟩, ⟨n3, b3, e3⟩, ⟨n4, b4, e4⟩, ⟨n5, b5, e5⟩, ⟨n6, b6, e6⟩, ⟨n7, b7, e7⟩, ⟨n9, b9, e9⟩⟩ := hR.k
  have k7 : cN s 7 = n7 := cN_of e7 (by omega)
  rw [k7] at tTape cTape
  have k0 : cN s 0 = n0 := cN_of e0 (by omega)
  rw [k0] at tCoins cCoins
  have k1 : cN s 1 = n1 := cN_of e1 (by omega)
  rw [k1] at tWares cWares
  have k3 : cN s 3 = n3 := cN_of e3 (by omega)
  rw [k3] at tBuys cBuys
  have k4 : cN s 4 = n4 := cN_of e4 (by omega)
  rw [k4] at tSlates cSlates
  have k5 : cN s 5 = n5 := cN_of e5 (by omega)
  rw [k5] at tPlans cPlans
  have k6 : cN s 6 = n6 := cN_of e6 (by omega)
  rw [k6] at tBooked cBooked
  refine x_aload_n dX10_image_0 rfl ?_
  refine y_getr dX10_image_1 F_C_18 (fxo_64 hx) rfl (fxp_64_1 hx) ?_
  refine x_aload_n dX10_image_4 rfl ?_
  refine y_getr dX10_image_5 F_C_12 (fxo_64 hx) rfl (fxp_64_0 hx) ?_
  refine x_callV (k2 := 0) (n2 := 0) dX10_image_8 LV_C_251 (m_tkK hx hW hKE) rfl rfl (fxo_81 hx) rfl (Nat.le_of_ble_eq_true rfl) (Nat.le_of_ble_eq_true rfl) (Nat.le_of_ble_eq_true rfl) (Nat.le_of_ble_eq_true rfl) ?_
  rintro _ _ ⟨P1, I1, rfl, rfl, hx1, hP1, hF1, hW1, hK1⟩
  refine x_aload_n dX10_image_11 rfl ?_
  refine x_iconst (v := 1) dX10_image_12 (by decide) ?_
  refine x_puti dX10_image_13 F_C_21 T_10_2 (fxo_64 hx) rfl rfl rfl ?_
  have hG : xFrm [64, 81, 82, 83, 84, 85, 86, 87, 88, 89, 90, 91, 92, 93, 94, 95] I (xup I1 64 2 1) := xFrs hF1.mono
  have hW2 : xWN nx sh P1 (xup I1 64 2 1) s := hW1.fr (fun a ha => xup_n (by omega))
  have hK2 : xWK nx sh P1 (xup I1 64 2 1) s := hK1.fr (fun a ha => xup_n (by omega))
  have hx := hx1
  obtain ⟨⟨-, tC2, -⟩, -⟩ := id hW2
  rw [k0] at tC2
  refine x_aload_n dX10_image_16 rfl ?_
  refine y_getr dX10_image_17 F_C_12 (fxo_64 hx) rfl (fxp_64_0 hx) ?_
  refine y_getr dX10_image_20 F_C_110 (fxo_65 hx) rfl (fxp_65_1 hx) ?_
  refine x_callV (k2 := 0) (n2 := 0) dX10_image_23 LV_C_89 (m_Table_rows tC2) rfl rfl (fxo_68 hx) rfl (Nat.le_of_ble_eq_true rfl) (Nat.le_of_ble_eq_true rfl) (Nat.le_of_ble_eq_true rfl) (Nat.le_of_ble_eq_true rfl) ?_
  rintro _ _ ⟨rfl, rfl⟩
  refine x_ireturn dX10_image_26 rfl nb_int ?_
  exact ⟨P1, _, by rw [e0], rfl, hx1, hP1, hG, xs, fun j hj => by rw [xf hj, hF1 64 (by decide)], hW2, hK2⟩

set_option maxHeartbeats 4000000 in
set_option maxRecDepth 100000 in
theorem m_C_undo {g : xG} {nx : Nat} {sh : Nat → Nat × Nat} {P : Nat → Nat → Option Nat} {I : Nat → Nat → Int32} (hx : xFx sh P) {s : Nat → Int32} (hW : xWN nx sh P I s) (hR : RI s) {b : Int32} {u : Nat → Int32} (hkp : I 64 2 = b) (hKW : ¬ b = 0 → xWK nx sh P I u ∧ RI u) : xMet g Y_C_undo 3 0 0 [.ref 64] (nx, sh, P, I) (fun r σ => (b = 0 ∧ r = some (.int (-3)) ∧ σ = (nx, sh, P, I)) ∨ (¬ b = 0 ∧ ∃ (P1 : Nat → Nat → Option Nat) (I1 : Nat → Nat → Int32), r = some (.int (u 0)) ∧ σ = (nx, sh, P1, I1) ∧ xFx sh P1 ∧ (∀ a k, ¬ (a = 65 ∧ k = 8) → P1 a k = P a k) ∧ xFrm [65, 66, 67, 68, 69, 70, 71, 72, 73, 74, 75, 76, 77, 78, 79] I I1 ∧ xWN nx sh P1 I1 u ∧ xWK nx sh P1 I1 u)) := by
  refine xMet.of [some (.ref 64)] (by decide +kernel) (Nat.le_of_ble_eq_true rfl) rfl ?_
  obtain ⟨⟨tTape, tCoins, tWares, tBuys, tSlates, tPlans, tBooked⟩, ⟨cTape, cCoins, cWares, cBuys, cSlates, cPlans, cBooked⟩, hW7, hW9, hL⟩ := id hW
  obtain ⟨⟨n0, b0, e0⟩, ⟨n1, b1, e1⟩, ⟨n2, b2, e2⟩, ⟨n3, b3, e3⟩, ⟨n4, b4, e4⟩, ⟨n5, b5, e5⟩, ⟨n6, b6, e6⟩, ⟨n7, b7, e7⟩, ⟨n9, b9, e9⟩⟩ := hR.k
  have k7 : cN s 7 = n7 := cN_of e7 (by omega)
  rw [k7] at tTape cTape
  have k0 : cN s 0 = n0 := cN_of e0 (by omega)
  rw [k0] at tCoins cCoins
  have k1 : cN s 1 = n1 := cN_of e1 (by omega)
  rw [k1] at tWares cWares
  have k3 : cN s 3 = n3 := cN_of e3 (by omega)
  rw [k3] at tBuys cBuys
  have k4 : cN s 4 = n4 := cN_of e4 (by omega)
  rw [k4] at tSlates cSlates
  have k5 : cN s 5 = n5 := cN_of e5 (by omega)
  rw [k5] at tPlans cPlans
  have k6 : cN s 6 = n6 := cN_of e6 (by omega)
  rw [k6] at tBooked cBooked
  refine x_aload_n dX10_undo_0 rfl ?_
  refine y_geti dX10_undo_1 F_C_21 (fxo_64 hx) rfl hkp ?_
  refine x_if_ne (tgt := 10) dX10_undo_4 rfl (fun c4 => ?_) (fun c4 => ?_)
  · skip
    refine x_aload_n dX10_undo_10 rfl ?_
    refine y_getr dX10_undo_11 F_C_12 (fxo_64 hx) rfl (fxp_64_0 hx) ?_
    refine x_aload_n dX10_undo_14 rfl ?_
    refine y_getr dX10_undo_15 F_C_18 (fxo_64 hx) rfl (fxp_64_1 hx) ?_
    refine x_callV (k2 := 0) (n2 := 0) dX10_undo_18 LV_C_251 (m_tkN hx (hKW c4).1 ⟨_, _, _, _, _, _, _, hW.1⟩) rfl rfl (fxo_65 hx) rfl (Nat.le_of_ble_eq_true rfl) (Nat.le_of_ble_eq_true rfl) (Nat.le_of_ble_eq_true rfl) (Nat.le_of_ble_eq_true rfl) ?_
    rintro _ _ ⟨P1, I1, rfl, rfl, hx1, hP1, hF1, hK1, hW1⟩
    have hx := hx1
    obtain ⟨⟨-, tC2, -⟩, -⟩ := id hW1
    have e02 := ((hKW c4).2.c0.1)
    refine x_aload_n dX10_undo_21 rfl ?_
    refine y_getr dX10_undo_22 F_C_12 (fxo_64 hx) rfl (fxp_64_0 hx) ?_
    refine y_getr dX10_undo_25 F_C_110 (fxo_65 hx) rfl (fxp_65_1 hx) ?_
    refine x_callV (k2 := 0) (n2 := 0) dX10_undo_28 LV_C_89 (m_Table_rows tC2) rfl rfl (fxo_68 hx) rfl (Nat.le_of_ble_eq_true rfl) (Nat.le_of_ble_eq_true rfl) (Nat.le_of_ble_eq_true rfl) (Nat.le_of_ble_eq_true rfl) ?_
    rintro _ _ ⟨rfl, rfl⟩
    refine x_ireturn dX10_undo_31 rfl nb_int ?_
    exact Or.inr ⟨c4, P1, I1, by rw [← e02], rfl, hx1, hP1, hF1, hW1, hK1⟩
  · refine x_bipush (v := (-3)) dX10_undo_7 (by decide) ?_
    refine x_ireturn dX10_undo_9 rfl nb_int ?_
    exact Or.inl ⟨c4, rfl, rfl⟩
