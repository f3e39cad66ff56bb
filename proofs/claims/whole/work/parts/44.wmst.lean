/-! the world, changed block by block -/
/-- the land's part of a state that is the same from 217 on -/
theorem lnd_same {s t : Nat → Int32} (hR : RI s) (h8 : t 8 = s 8) (h : ∀ j, 217 ≤ j → t j = s j) : (∀ w v, 217 ≤ w → tlO t w v = tlO s w v) ∧ ∀ f, LK t f = LK s f := by
  refine ⟨fun w v hw => by unfold tlO; rw [h8, h _ (by omega)], fun f => ?_⟩
  rcases hR.hold with z | ⟨a, ha, z⟩
  · unfold LK; rw [h8, if_pos z, if_pos z]
  · have h2 := hR.2.1.2.2.1
    obtain ⟨-, -, mm, q1, q2, -⟩ := hR.2.2.2.2.1.1 a ha
    rw [LK_at (by omega) z q2 q1, LK_at (by omega) (h8.trans z) ((h _ (by omega)).trans q2) q1]
    exact lkE_p (fun j _ => h _ (by omega))
theorem xWN.mst {nx : Nat} {sh : Nat → Nat × Nat} {P : Nat → Nat → Option Nat} {I I1 : Nat → Nat → Int32} {s t : Nat → Int32} (h : xWN nx sh P I s) (hR : RI s)
    (btape : (I1 66 = I 66 ∧ I1 67 = I 67 ∧ t 7 = s 7 ∧ same s t 117 217) ∨ (xTb sh P I1 66 67 1 100 (cN t 7) ∧ (∀ i, i < cN t 7 → I1 67 (i * 1 + 0) = t (117 + i))))
    (bcoins : (I1 68 = I 68 ∧ I1 69 = I 69 ∧ t 0 = s 0 ∧ same s t 10 42) ∨ (xTb sh P I1 68 69 8 4 (cN t 0) ∧ (∀ c, c < cN t 0 → I1 69 (c * 8 + 0) = t (10 + c) ∧ I1 69 (c * 8 + 1) = t (14 + c) ∧ I1 69 (c * 8 + 2) = t (18 + c) ∧ I1 69 (c * 8 + 3) = t (22 + c) ∧ ∀ k, k < 4 → I1 69 (c * 8 + (4 + k)) = t (26 + 4 * c + k))))
    (bwares : (I1 70 = I 70 ∧ I1 71 = I 71 ∧ t 1 = s 1 ∧ same s t 42 47) ∨ (xTb sh P I1 70 71 1 5 (cN t 1) ∧ (∀ i, i < cN t 1 → I1 71 (i * 1 + 0) = t (42 + i))))
    (bbuys : (I1 72 = I 72 ∧ I1 73 = I 73 ∧ t 3 = s 3 ∧ same s t 47 77) ∨ (xTb sh P I1 72 73 5 6 (cN t 3) ∧ (∀ i, i < cN t 3 → I1 73 (i * 5 + 0) = t (47 + i) ∧ ∀ k, k < 4 → I1 73 (i * 5 + (1 + k)) = t (53 + 4 * i + k))))
    (bslates : (I1 74 = I 74 ∧ I1 75 = I 75 ∧ t 4 = s 4 ∧ same s t 77 95) ∨ (xTb sh P I1 74 75 3 6 (cN t 4) ∧ (∀ i, i < cN t 4 → I1 75 (i * 3 + 0) = t (77 + i) ∧ I1 75 (i * 3 + 1) = t (83 + i) ∧ I1 75 (i * 3 + 2) = t (89 + i))))
    (bplans : (I1 76 = I 76 ∧ I1 77 = I 77 ∧ t 5 = s 5 ∧ same s t 95 101) ∨ (xTb sh P I1 76 77 1 6 (cN t 5) ∧ (∀ i, i < cN t 5 → I1 77 (i * 1 + 0) = t (95 + i))))
    (bbooked : (I1 78 = I 78 ∧ I1 79 = I 79 ∧ t 6 = s 6 ∧ same s t 101 117) ∨ (xTb sh P I1 78 79 2 8 (cN t 6) ∧ (∀ i, i < cN t 6 → I1 79 (i * 2 + 0) = t (101 + i) ∧ I1 79 (i * 2 + 1) = t (109 + i))))
    (l7 : I1 65 7 = t 2) (l9 : I1 65 9 = t 9) (l : (∀ a, 144 ≤ a → I1 a = I a) ∧ t 8 = s 8 ∧ ∀ j, 217 ≤ j → t j = s j) : xWN nx sh P I1 t := by
  obtain ⟨⟨t1, t2, t3, t4, t5, t6, t7⟩, ⟨c1, c2, c3, c4, c5, c6, c7⟩, -, -, hL⟩ := h
  have q1 : xTb sh P I1 66 67 1 100 (cN t 7) ∧ (∀ i, i < cN t 7 → I1 67 (i * 1 + 0) = t (117 + i)) := by
    rcases btape with ⟨e1, e2, e3, e4⟩ | e
    · rw [cN_eq e3, e2]
      have h04 := hR.2.1.2.2.2.2.2.2.2
      exact ⟨t1.other e1, fun i hi => by rw [e4 _ (by omega) (by omega)]; exact c1 i hi⟩
    · exact e
  have q2 : xTb sh P I1 68 69 8 4 (cN t 0) ∧ (∀ c, c < cN t 0 → I1 69 (c * 8 + 0) = t (10 + c) ∧ I1 69 (c * 8 + 1) = t (14 + c) ∧ I1 69 (c * 8 + 2) = t (18 + c) ∧ I1 69 (c * 8 + 3) = t (22 + c) ∧ ∀ k, k < 4 → I1 69 (c * 8 + (4 + k)) = t (26 + 4 * c + k)) := by
    rcases bcoins with ⟨e1, e2, e3, e4⟩ | e
    · rw [cN_eq e3, e2]
      have h04 := hR.c0.2
      exact ⟨t2.other e1, fun c hc => by rw [e4 (10 + c) (by omega) (by omega), e4 (14 + c) (by omega) (by omega), e4 (18 + c) (by omega) (by omega), e4 (22 + c) (by omega) (by omega)]; exact ⟨(c2 c hc).1, (c2 c hc).2.1, (c2 c hc).2.2.1, (c2 c hc).2.2.2.1, fun k hk => by rw [e4 _ (by omega) (by omega)]; exact (c2 c hc).2.2.2.2 k hk⟩⟩
    · exact e
  have q3 : xTb sh P I1 70 71 1 5 (cN t 1) ∧ (∀ i, i < cN t 1 → I1 71 (i * 1 + 0) = t (42 + i)) := by
    rcases bwares with ⟨e1, e2, e3, e4⟩ | e
    · rw [cN_eq e3, e2]
      have h04 := hR.2.1.2.1
      exact ⟨t3.other e1, fun i hi => by rw [e4 _ (by omega) (by omega)]; exact c3 i hi⟩
    · exact e
  have q4 : xTb sh P I1 72 73 5 6 (cN t 3) ∧ (∀ i, i < cN t 3 → I1 73 (i * 5 + 0) = t (47 + i) ∧ ∀ k, k < 4 → I1 73 (i * 5 + (1 + k)) = t (53 + 4 * i + k)) := by
    rcases bbuys with ⟨e1, e2, e3, e4⟩ | e
    · rw [cN_eq e3, e2]
      have h04 := hR.2.1.2.2.2.1
      exact ⟨t4.other e1, fun i hi => by rw [e4 (47 + i) (by omega) (by omega)]; exact ⟨(c4 i hi).1, fun k hk => by rw [e4 _ (by omega) (by omega)]; exact (c4 i hi).2 k hk⟩⟩
    · exact e
  have q5 : xTb sh P I1 74 75 3 6 (cN t 4) ∧ (∀ i, i < cN t 4 → I1 75 (i * 3 + 0) = t (77 + i) ∧ I1 75 (i * 3 + 1) = t (83 + i) ∧ I1 75 (i * 3 + 2) = t (89 + i)) := by
    rcases bslates with ⟨e1, e2, e3, e4⟩ | e
    · rw [cN_eq e3, e2]
      have h04 := hR.2.1.2.2.2.2.1
      exact ⟨t5.other e1, fun i hi => by rw [e4 (77 + i) (by omega) (by omega), e4 (83 + i) (by omega) (by omega), e4 (89 + i) (by omega) (by omega)]; exact c5 i hi⟩
    · exact e
  have q6 : xTb sh P I1 76 77 1 6 (cN t 5) ∧ (∀ i, i < cN t 5 → I1 77 (i * 1 + 0) = t (95 + i)) := by
    rcases bplans with ⟨e1, e2, e3, e4⟩ | e
    · rw [cN_eq e3, e2]
      have h04 := hR.2.1.2.2.2.2.2.1
      exact ⟨t6.other e1, fun i hi => by rw [e4 _ (by omega) (by omega)]; exact c6 i hi⟩
    · exact e
  have q7 : xTb sh P I1 78 79 2 8 (cN t 6) ∧ (∀ i, i < cN t 6 → I1 79 (i * 2 + 0) = t (101 + i) ∧ I1 79 (i * 2 + 1) = t (109 + i)) := by
    rcases bbooked with ⟨e1, e2, e3, e4⟩ | e
    · rw [cN_eq e3, e2]
      have h04 := hR.2.1.2.2.2.2.2.2.1
      exact ⟨t7.other e1, fun i hi => by rw [e4 (101 + i) (by omega) (by omega), e4 (109 + i) (by omega) (by omega)]; exact c7 i hi⟩
    · exact e
  refine ⟨⟨q1.1, q2.1, q3.1, q4.1, q5.1, q6.1, q7.1⟩, ⟨q1.2, q2.2, q3.2, q4.2, q5.2, q6.2, q7.2⟩, l7, l9, ?_⟩
  obtain ⟨l1, l2, l3⟩ := l
  obtain ⟨z1, z2⟩ := lnd_same hR l2 l3
  rcases hL.mv (I' := I1) (Nat.le_refl _) rfl (fun a h1 _ => ⟨l1 a h1, rfl, rfl⟩) with ⟨y1, y2⟩ | ⟨y1, la, ar, cs, cv, y2, y3, y4, y5, y6, y7⟩
  · exact Or.inl ⟨l2.trans y1, y2⟩
  · exact Or.inr ⟨fun z => y1 (l2.symm.trans z), la, ar, cs, cv, y2, y3, y4, (z1 _ _ (by decide)).trans y5, (z1 _ _ (by decide)).trans y6, fun f => (z2 f).trans (y7 f)⟩
/-- a row vs written behind n others of W -/
def apF (f : Nat → Int32) (n W : Nat) (vs : List Int32) : Nat → Int32 := fun j => if n * W ≤ j ∧ j < n * W + W then vs.getD (j - n * W) 0 else f j
theorem apF_0 {f : Nat → Int32} {n W : Nat} {vs : List Int32} (h : ∀ k, k < W → vs.getD k 0 = 0) : xZf f (n * W) W = apF f n W vs := by
  funext j
  unfold xZf apF
  by_cases hj : n * W ≤ j ∧ j < n * W + W
  · rw [if_pos hj, if_pos hj, h _ (by omega)]
  · rw [if_neg hj, if_neg hj]
theorem apF_s {f : Nat → Int32} {n W k : Nat} {vs vs' : List Int32} {v : Int32} (hk : k < W) (h : ∀ j, j < W → vs'.getD j 0 = if j = k then v else vs.getD j 0) : upd (apF f n W vs) (n * W + k) v = apF f n W vs' := by
  funext j
  unfold upd apF
  by_cases hj : n * W ≤ j ∧ j < n * W + W
  · rw [if_pos hj, if_pos hj, h _ (by omega)]
    by_cases hk2 : j = n * W + k
    · rw [if_pos hk2, if_pos (by omega)]
    · rw [if_neg hk2, if_neg (by omega)]
  · rw [if_neg hj, if_neg (by omega), if_neg hj]
theorem apF_o {f : Nat → Int32} {n W i k : Nat} {vs : List Int32} (hi : i < n) (hk : k < W) : apF f n W vs (i * W + k) = f (i * W + k) := by
  have h1 : (i + 1) * W ≤ n * W := Nat.mul_le_mul_right W hi
  rw [Nat.add_mul, Nat.one_mul] at h1
  unfold apF
  rw [if_neg (by omega)]
theorem apF_n {f : Nat → Int32} {n W k : Nat} {vs : List Int32} (hk : k < W) : apF f n W vs (n * W + k) = vs.getD k 0 := by
  unfold apF
  rw [if_pos (by omega)]
  congr 1; omega
theorem xTb.app {sh : Nat → Nat × Nat} {P : Nat → Nat → Option Nat} {I : Nat → Nat → Int32} {t c W L n : Nat} (h : xTb sh P I t c W L n) (hn : n < L) {F : Nat → Int32} : xTb sh P (va_up (xup I t 3 (nI (n + 1))) c F) t c W L (n + 1) := (h.rows (m := n + 1) (by omega)).other (va_up_no h.2.2.2.2.2.2.2.2.2.2)
theorem bt_of {s : Nat → Int32} {k n : Nat} (h : s k = nI n) (hn : n < 1000) : cN s k = n := cN_of h (by omega)