/-! rows that are the same below 932 -/
theorem RI.cg {s t : Nat → Int32} (h : RI s) (hA : ∀ j, j < 932 → t j = s j) : RI t := by
  have hc : ∀ i, i < 10 → t i = s i := fun i hi => hA i (by omega)
  have hN : ∀ i, i < 10 → cN t i = cN s i := fun i hi => congrArg Int32.toNatClampNeg (hc i hi)
  obtain ⟨g0, g1, g2, g3, g4, g5, g6, g7⟩ := h.2.1
  refine ⟨fun i hi => by rw [hc i (by omega), hN i (by omega)]; exact h.1 i hi, ?_, ?_, ?_, ?_, ?_⟩
  · rw [hN 0 (by omega), hN 1 (by omega), hN 2 (by omega), hN 3 (by omega), hN 4 (by omega), hN 5 (by omega), hN 6 (by omega), hN 7 (by omega)]; exact h.2.1
  · rw [hc 9 (by omega)]; exact h.2.2.1
  · intro c hcc
    rw [hN 0 (by omega)] at hcc
    obtain ⟨a1, a2, a3, a4, a5⟩ := h.2.2.2.1 c hcc
    exact ⟨by rw [hA _ (by omega)]; exact a1, by rw [hA _ (by omega)]; exact a2, by rw [hA _ (by omega)]; exact a3, by rw [hA _ (by omega)]; exact a4, fun k hk => by rw [hA _ (by omega)]; exact a5 k hk⟩
  · obtain ⟨b1, b2⟩ := h.2.2.2.2.1
    refine ⟨fun a ha => ?_, by rw [hc 8 (by omega), hN 2 (by omega)]; exact b2⟩
    rw [hN 2 (by omega)] at ha
    obtain ⟨q1, q2, mm, q3, q4, q5, q6⟩ := b1 a ha
    have e : ∀ j, j < 0 + mm → (fun i => t (232 + 140 * a + i)) j = (fun i => s (232 + 140 * a + i)) j := fun j hj => hA _ (by omega)
    refine ⟨by rw [hA (217 + a) (by omega)]; exact q1, by rw [hA (222 + a) (by omega)]; exact q2, mm, q3, by rw [hA (227 + a) (by omega)]; exact q4, by rw [lkV_p e]; exact q5, fun f => by rw [lkE_p e]; exact q6 f⟩
  · obtain ⟨c1, c2, c3, c4, c5, c6⟩ := h.2.2.2.2.2
    refine ⟨fun i hi => ?_, fun i hi => ?_, fun i hi => ?_, fun i hi => ?_, fun i hi => ?_, fun i hi => ?_⟩
    · rw [hN 1 (by omega)] at hi; rw [hA _ (by omega)]; exact c1 i hi
    · rw [hN 3 (by omega)] at hi; rw [hA (47 + i) (by omega)]; exact ⟨(c2 i hi).1, fun k hk => by rw [hA _ (by omega)]; exact (c2 i hi).2 k hk⟩
    · rw [hN 4 (by omega)] at hi; rw [hA (77 + i) (by omega), hA (83 + i) (by omega), hA (89 + i) (by omega)]; exact c3 i hi
    · rw [hN 5 (by omega)] at hi; rw [hA _ (by omega)]; exact c4 i hi
    · rw [hN 6 (by omega)] at hi; rw [hA (101 + i) (by omega), hA (109 + i) (by omega), hN 0 (by omega)]; exact c5 i hi
    · rw [hN 7 (by omega)] at hi; rw [hA _ (by omega)]; exact c6 i hi
theorem xLd.cg {nx : Nat} {sh : Nat → Nat × Nat} {P : Nat → Nat → Option Nat} {I : Nat → Nat → Int32} {w : Nat} {s t : Nat → Int32} (h : xLd nx sh P I w s) (hR : RI s) (hA : ∀ j, j < 932 → t j = s j) : xLd nx sh P I w t := by
  have h8 : t 8 = s 8 := hA 8 (by omega)
  rcases h with ⟨h1, h2⟩ | ⟨h1, la, ar, cs, cv, h2, h3, h4, h5, h6, h7⟩
  · exact Or.inl ⟨h8.trans h1, h2⟩
  · refine Or.inr ⟨fun y => h1 (h8.symm.trans y), la, ar, cs, cv, h2, h3, h4, ?_, ?_, fun f => ?_⟩
    all_goals
      rcases hR.hold with z | ⟨a, ha, z⟩
      · exact absurd z h1
      · have h22 := hR.2.1.2.2.1
        obtain ⟨-, -, mm, q1, q2, -⟩ := hR.2.2.2.2.1.1 a ha
        first
        | (rw [← h5]; unfold tlO; rw [h8, z, nI_clamp (by omega), hA _ (by omega)])
        | (rw [← h6]; unfold tlO; rw [h8, z, nI_clamp (by omega), hA _ (by omega)])
        | (rw [← h7 f, LK_at (by omega) z q2 q1, LK_at (by omega) (h8.trans z) ((hA _ (by omega)).trans q2) q1]; exact lkE_p (fun j hj => hA _ (by omega)))
theorem xWN.cg {nx : Nat} {sh : Nat → Nat × Nat} {P : Nat → Nat → Option Nat} {I : Nat → Nat → Int32} {s t : Nat → Int32} (h : xWN nx sh P I s) (hR : RI s) (hA : ∀ j, j < 932 → t j = s j) : xWN nx sh P I t := by
  have hN : ∀ i, i < 10 → cN t i = cN s i := fun i hi => congrArg Int32.toNatClampNeg (hA i (by omega))
  obtain ⟨g0, g1, g2, g3, g4, g5, g6, g7⟩ := hR.2.1
  obtain ⟨⟨t1, t2, t3, t4, t5, t6, t7⟩, ⟨c1, c2, c3, c4, c5, c6, c7⟩, w7, w9, hL⟩ := h
  refine ⟨⟨by rw [hN 7 (by omega)]; exact t1, by rw [hN 0 (by omega)]; exact t2, by rw [hN 1 (by omega)]; exact t3, by rw [hN 3 (by omega)]; exact t4, by rw [hN 4 (by omega)]; exact t5, by rw [hN 5 (by omega)]; exact t6, by rw [hN 6 (by omega)]; exact t7⟩, ⟨fun i hi => ?_, fun c hc => ?_, fun i hi => ?_, fun i hi => ?_, fun i hi => ?_, fun i hi => ?_, fun i hi => ?_⟩, w7.trans (hA 2 (by omega)).symm, w9.trans (hA 9 (by omega)).symm, hL.cg hR hA⟩
  · rw [hN 7 (by omega)] at hi; rw [hA _ (by omega)]; exact c1 i hi
  · rw [hN 0 (by omega)] at hc
    rw [hA (10 + c) (by omega), hA (14 + c) (by omega), hA (18 + c) (by omega), hA (22 + c) (by omega)]
    exact ⟨(c2 c hc).1, (c2 c hc).2.1, (c2 c hc).2.2.1, (c2 c hc).2.2.2.1, fun k hk => by rw [hA _ (by omega)]; exact (c2 c hc).2.2.2.2 k hk⟩
  · rw [hN 1 (by omega)] at hi; rw [hA _ (by omega)]; exact c3 i hi
  · rw [hN 3 (by omega)] at hi; rw [hA (47 + i) (by omega)]; exact ⟨(c4 i hi).1, fun k hk => by rw [hA _ (by omega)]; exact (c4 i hi).2 k hk⟩
  · rw [hN 4 (by omega)] at hi; rw [hA (77 + i) (by omega), hA (83 + i) (by omega), hA (89 + i) (by omega)]; exact c5 i hi
  · rw [hN 5 (by omega)] at hi; rw [hA _ (by omega)]; exact c6 i hi
  · rw [hN 6 (by omega)] at hi; rw [hA (101 + i) (by omega), hA (109 + i) (by omega)]; exact c7 i hi
theorem xWK.cg {nx : Nat} {sh : Nat → Nat × Nat} {P : Nat → Nat → Option Nat} {I : Nat → Nat → Int32} {s t : Nat → Int32} (h : xWK nx sh P I s) (hR : RI s) (hA : ∀ j, j < 932 → t j = s j) : xWK nx sh P I t := by
  have hN : ∀ i, i < 10 → cN t i = cN s i := fun i hi => congrArg Int32.toNatClampNeg (hA i (by omega))
  obtain ⟨g0, g1, g2, g3, g4, g5, g6, g7⟩ := hR.2.1
  obtain ⟨⟨t1, t2, t3, t4, t5, t6, t7⟩, ⟨c1, c2, c3, c4, c5, c6, c7⟩, w7, w9, hL⟩ := h
  refine ⟨⟨by rw [hN 7 (by omega)]; exact t1, by rw [hN 0 (by omega)]; exact t2, by rw [hN 1 (by omega)]; exact t3, by rw [hN 3 (by omega)]; exact t4, by rw [hN 4 (by omega)]; exact t5, by rw [hN 5 (by omega)]; exact t6, by rw [hN 6 (by omega)]; exact t7⟩, ⟨fun i hi => ?_, fun c hc => ?_, fun i hi => ?_, fun i hi => ?_, fun i hi => ?_, fun i hi => ?_, fun i hi => ?_⟩, w7.trans (hA 2 (by omega)).symm, w9.trans (hA 9 (by omega)).symm, hL.cg hR hA⟩
  · rw [hN 7 (by omega)] at hi; rw [hA _ (by omega)]; exact c1 i hi
  · rw [hN 0 (by omega)] at hc
    rw [hA (10 + c) (by omega), hA (14 + c) (by omega), hA (18 + c) (by omega), hA (22 + c) (by omega)]
    exact ⟨(c2 c hc).1, (c2 c hc).2.1, (c2 c hc).2.2.1, (c2 c hc).2.2.2.1, fun k hk => by rw [hA _ (by omega)]; exact (c2 c hc).2.2.2.2 k hk⟩
  · rw [hN 1 (by omega)] at hi; rw [hA _ (by omega)]; exact c3 i hi
  · rw [hN 3 (by omega)] at hi; rw [hA (47 + i) (by omega)]; exact ⟨(c4 i hi).1, fun k hk => by rw [hA _ (by omega)]; exact (c4 i hi).2 k hk⟩
  · rw [hN 4 (by omega)] at hi; rw [hA (77 + i) (by omega), hA (83 + i) (by omega), hA (89 + i) (by omega)]; exact c5 i hi
  · rw [hN 5 (by omega)] at hi; rw [hA _ (by omega)]; exact c6 i hi
  · rw [hN 6 (by omega)] at hi; rw [hA (101 + i) (by omega), hA (109 + i) (by omega)]; exact c7 i hi
