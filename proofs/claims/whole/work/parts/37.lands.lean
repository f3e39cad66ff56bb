/-! the reference: a land -/
theorem xo {I : Nat → Nat → Int32} {a k b j : Nat} {v : Int32} (h : b ≠ a) : xup I a k v b j = I b j := congrFun (xup_n h) j
theorem xf {I : Nat → Nat → Int32} {a k j : Nat} {v : Int32} (h : j ≠ k) : xup I a k v a j = I a j := by rw [xup_at, if_neg (fun z => h z.2)]
theorem xs {I : Nat → Nat → Int32} {a k : Nat} {v : Int32} : xup I a k v a k = v := by rw [xup_at, if_pos ⟨rfl, rfl⟩]
/-- a land half read: S ahead of it, s1 now -/
def xLy (S s1 : Nat → Int32) (ac : Nat) (L : List Int32) (cv : List CV) : Prop := (∀ j, j < 232 + 140 * ac → j ≠ 7 → j ≠ 217 + ac → j ≠ 222 + ac → j ≠ 227 + ac → s1 j = S j) ∧ s1 7 = 0 ∧ s1 (227 + ac) = nI L.length ∧ (∀ j, j < L.length → s1 (232 + 140 * ac + j) = L.getD j 0) ∧ s1 (217 + ac) = lst 0 9 cv ∧ s1 (222 + ac) = lst 1 0 cv ∧ mL L cv
theorem xLy.st {S s1 s2 : Nat → Int32} {ac k n : Nat} {L L' : List Int32} {cv : List CV} {v : (Nat → Int32) → Bool} (h4 : ac ≤ 4) (h : xLy S s1 ac L cv) (hw : xWr (tpU k ac (nI n) s1) s2 ac L.length L') (hk : k < 4) (hn : n ≤ 99) (h1 : k < 2 → L' = []) (h2 : 2 ≤ k → ∃ L2, L' = L2 ++ [(if k = 2 then -10 else -200) - nI n] ∧ mR L2 20 v) : xLy S s2 ac (L ++ L') (cv ++ [(k, nI n, v)]) := by
  obtain ⟨a1, a2, a3, a4, a5, a6, a7⟩ := h
  have e : ∀ j, j < 232 + 140 * ac + L.length → j ≠ 227 + ac → s2 j = tpU k ac (nI n) s1 j := fun j hj hj2 => hw.no h4 hj hj2
  have u : ∀ j, ¬ (k < 2 ∧ j = 217 + 5 * k + ac) → tpU k ac (nI n) s1 j = s1 j := fun j hj => by
    unfold tpU
    by_cases hk2 : k < 2
    · rw [if_pos hk2]; exact upd_n (fun z => hj ⟨hk2, z⟩)
    · rw [if_neg hk2]
  refine ⟨fun j b1 b2 b3 b4 b5 => ?_, ?_, ?_, fun j hj => ?_, ?_, ?_, ?_⟩
  · rw [e j (by omega) b5, u j (by omega)]; exact a1 j b1 b2 b3 b4 b5
  · rw [e 7 (by omega) (by omega), u 7 (by omega)]; exact a2
  · rw [hw.cn, List.length_append]
  · by_cases hjl : j < L.length
    · rw [e _ (by omega) (by omega), u _ (by omega), gD_l hjl]; exact a4 j hjl
    · obtain ⟨q, rfl⟩ : ∃ q, j = L.length + q := ⟨j - L.length, by omega⟩
      rw [List.length_append] at hj
      rw [gD_r, hw]
      unfold upd wrL
      rw [if_neg (by omega), if_pos (by omega)]
      congr 1; omega
  · rw [e _ (by omega) (by omega), lst_a]
    show _ = if k = 0 then nI n else _
    by_cases hk0 : k = 0
    · rw [if_pos hk0]; unfold tpU; rw [if_pos (by omega), hk0]; exact upd_e
    · rw [if_neg hk0, u _ (by omega)]; exact a5
  · rw [e _ (by omega) (by omega), lst_a]
    show _ = if k = 1 then nI n else _
    by_cases hk0 : k = 1
    · rw [if_pos hk0]; unfold tpU; rw [if_pos (by omega), hk0]; exact upd_e
    · rw [if_neg hk0, u _ (by omega)]; exact a6
  · by_cases hk2 : k < 2
    · rw [h1 hk2, List.append_nil]; exact a7.top hk2
    · obtain ⟨L2, e2, e3⟩ := h2 (by omega)
      rw [e2]
      refine a7.dear (q := 20) (by decide) e3 hn ?_
      by_cases hk3 : k = 2
      · exact Or.inl ⟨hk3, by rw [if_pos hk3]⟩
      · exact Or.inr ⟨by omega, by rw [if_neg hk3]⟩
/-- a state whose lands alone have changed, and whose text is empty -/
theorem RI.ld {s t : Nat → Int32} (h : RI s) {n2 : Nat} (h1 : ∀ j, j < 217 → j ≠ 2 → j ≠ 7 → j ≠ 8 → t j = s j) (h7 : t 7 = 0) (h2 : t 2 = nI n2) (hn2 : n2 ≤ 5) (hl : RIl t) : RI t := by
  obtain ⟨hk, ⟨b0, b1, b2, b3, b4, b5, b6, b7⟩, hd, hC, -, x1, x3, x4, x5, x6, x7⟩ := h
  have c : ∀ k, k < 217 → k ≠ 2 → k ≠ 7 → k ≠ 8 → cN t k = cN s k := fun k a1 a2 a3 a4 => cN_eq (h1 k a1 a2 a3 a4)
  have c7 : cN t 7 = 0 := by unfold cN; rw [h7]; rfl
  have c2 : cN t 2 = n2 := cN_of h2 (by omega)
  refine ⟨fun i hi => ?_, ⟨by rw [c 0 (by decide) (by decide) (by decide) (by decide)]; exact b0, by rw [c 1 (by decide) (by decide) (by decide) (by decide)]; exact b1, by rw [c2]; exact hn2, by rw [c 3 (by decide) (by decide) (by decide) (by decide)]; exact b3, by rw [c 4 (by decide) (by decide) (by decide) (by decide)]; exact b4, by rw [c 5 (by decide) (by decide) (by decide) (by decide)]; exact b5, by rw [c 6 (by decide) (by decide) (by decide) (by decide)]; exact b6, by rw [c7]; exact Nat.zero_le _⟩, by rw [h1 9 (by decide) (by decide) (by decide) (by decide)]; exact hd, ?_, hl, ?_, ?_, ?_, ?_, ?_, ?_⟩
  · by_cases i2 : i = 2
    · rw [i2, c2]; exact h2
    · by_cases i7 : i = 7
      · rw [i7, c7]; exact h7
      · rw [c i (by omega) i2 i7 (by omega), h1 i (by omega) i2 i7 (by omega)]; exact hk i hi
  · intro q hq
    rw [c 0 (by decide) (by decide) (by decide) (by decide)] at hq
    rw [h1 (10 + q) (by omega) (by omega) (by omega) (by omega), h1 (14 + q) (by omega) (by omega) (by omega) (by omega), h1 (18 + q) (by omega) (by omega) (by omega) (by omega), h1 (22 + q) (by omega) (by omega) (by omega) (by omega)]
    obtain ⟨y1, y2, y3, y4, y5⟩ := hC q hq
    exact ⟨y1, y2, y3, y4, fun k hk4 => by rw [h1 _ (by omega) (by omega) (by omega) (by omega)]; exact y5 k hk4⟩
  · intro i hi
    rw [c 1 (by decide) (by decide) (by decide) (by decide)] at hi
    rw [h1 _ (by omega) (by omega) (by omega) (by omega)]; exact x1 i hi
  · intro i hi
    rw [c 3 (by decide) (by decide) (by decide) (by decide)] at hi
    rw [h1 (47 + i) (by omega) (by omega) (by omega) (by omega)]
    exact ⟨(x3 i hi).1, fun k hk4 => by rw [h1 _ (by omega) (by omega) (by omega) (by omega)]; exact (x3 i hi).2 k hk4⟩
  · intro i hi
    rw [c 4 (by decide) (by decide) (by decide) (by decide)] at hi
    rw [h1 (77 + i) (by omega) (by omega) (by omega) (by omega), h1 (83 + i) (by omega) (by omega) (by omega) (by omega), h1 (89 + i) (by omega) (by omega) (by omega) (by omega)]; exact x4 i hi
  · intro i hi
    rw [c 5 (by decide) (by decide) (by decide) (by decide)] at hi
    rw [h1 _ (by omega) (by omega) (by omega) (by omega)]; exact x5 i hi
  · intro i hi
    rw [c 6 (by decide) (by decide) (by decide) (by decide)] at hi
    rw [c 0 (by decide) (by decide) (by decide) (by decide), h1 (101 + i) (by omega) (by omega) (by omega) (by omega), h1 (109 + i) (by omega) (by omega) (by omega) (by omega)]; exact x6 i hi
  · intro i hi
    rw [c7] at hi
    exact absurd hi (Nat.not_lt_zero _)
theorem dl_bd {f : Nat → Int32} : ∀ (cs : List CL) (cv : List CV) (s : Int32) (B : Nat), csOf cs cv → -(B : Int) ≤ s.toInt → s.toInt ≤ B → B + 99 * cs.length ≤ 1000000 → -((B + 99 * cs.length : Nat) : Int) ≤ (dl f s cv).toInt ∧ (dl f s cv).toInt ≤ ((B + 99 * cs.length : Nat) : Int)
  | [], [], s, B, _, h1, h2, _ => ⟨by show -((B + 0 : Nat) : Int) ≤ s.toInt; omega, by show s.toInt ≤ ((B + 0 : Nat) : Int); omega⟩
  | c :: cs, d :: cv, s, B, h, h1, h2, h3 => by
    obtain ⟨⟨-, e1, e2, ⟨n, hn, e3⟩, -⟩, hr⟩ := h
    have hd : d.2.1 = nI n := e2.trans e3
    have hs : -((B + 99 : Nat) : Int) ≤ (dcl f s d).toInt ∧ (dcl f s d).toInt ≤ ((B + 99 : Nat) : Int) := by
      rw [List.length_cons] at h3
      unfold dcl
      split
      · omega
      · split
        · split
          · rw [hd, i_add rfl (nI_toInt (by omega)) (by omega) (by omega)]; omega
          · rw [hd, ← Int32.sub_eq_add_neg, i_sub rfl (nI_toInt (by omega)) (by omega) (by omega)]; omega
        · omega
    rw [List.length_cons] at h3 ⊢
    have := dl_bd (f := f) cs cv (dcl f s d) (B + 99) hr hs.1 hs.2 (by omega)
    show -_ ≤ (dl f (dcl f s d) cv).toInt ∧ (dl f (dcl f s d) cv).toInt ≤ _
    omega
  | [], _ :: _, _, _, h, _, _, _ => absurd h id
  | _ :: _, [], _, _, h, _, _, _ => absurd h id
theorem lst_bd {w : Nat} : ∀ (cs : List CL) (cv : List CV) (v : Nat), csOf cs cv → v ≤ 99 → ∃ t, t ≤ 99 ∧ lst w (nI v) cv = nI t
  | [], [], v, _, h => ⟨v, h, rfl⟩
  | c :: cs, d :: cv, v, h, hv => by
    obtain ⟨⟨-, e1, e2, ⟨n, hn, e3⟩, -⟩, hr⟩ := h
    show ∃ t, t ≤ 99 ∧ lst w (if d.1 = w then d.2.1 else nI v) cv = nI t
    rw [e2.trans e3]
    split
    · exact lst_bd cs cv n hr hn
    · exact lst_bd cs cv v hr hv
  | [], _ :: _, _, h, _ => absurd h id
  | _ :: _, [], _, h, _ => absurd h id
theorem ldF_l {T : Nat → Int32} {en : Nat} : ∀ {k q sp : Nat} {cs : List CL}, ldF T en k q (some cs) sp → cs.length ≤ k
  | 0, _, _, _, h => absurd h id
  | k + 1, q, sp, cs, h => by
    unfold ldF at h
    rcases h with ⟨-, b⟩ | ⟨c, p, -, ⟨-, b, -⟩ | ⟨-, -, b, -⟩ | ⟨-, -, x, b1, b2⟩⟩
    · cases b
    · cases b; show 0 + 1 ≤ _; omega
    · cases b
    · cases x with
      | none => cases b2
      | some l =>
        cases b2
        have := ldF_l b1
        show l.length + 1 ≤ _; omega
theorem lkV_p {p p' : Nat → Int32} : ∀ {n i d : Nat}, (∀ j, j < i + n → p j = p' j) → lkV p n i d = lkV p' n i d
  | 0, _, _, _ => rfl
  | n + 1, i, d, h => by
    unfold lkV
    rw [h i (by omega), lkV_p (fun j hj => h j (by omega)), lkV_p (d := d) (fun j hj => h j (by omega)), lkV_p (d := d - 1) (fun j hj => h j (by omega)), lkV_p (d := 0) (fun j hj => h j (by omega))]
theorem lkE_p {p p' f : Nat → Int32} : ∀ {n i : Nat} {st : List Bool} {sum : Int32}, (∀ j, j < i + n → p j = p' j) → lkE p f n i st sum = lkE p' f n i st sum
  | 0, _, _, _, _ => rfl
  | n + 1, i, st, sum, h => by
    have ih : ∀ st sum, lkE p f n (i + 1) st sum = lkE p' f n (i + 1) st sum := fun st sum => lkE_p (fun j hj => h j (by omega))
    unfold lkE
    rw [h i (by omega)]
    simp only [ih]
/-- nothing of the lands told before has changed -/
theorem xLy.old {S s1 : Nat → Int32} {ac : Nat} (hR : RI S) (h4 : ac ≤ 4) (hac : cN S 2 = ac) (h : ∀ j, j < 232 + 140 * ac → j ≠ 7 → j ≠ 217 + ac → j ≠ 222 + ac → j ≠ 227 + ac → s1 j = S j) : ∀ a, a < ac → (∃ t, t ≤ 99 ∧ s1 (217 + a) = nI t) ∧ (∃ t, t ≤ 99 ∧ s1 (222 + a) = nI t) ∧ ∃ mm, mm ≤ 140 ∧ s1 (227 + a) = nI mm ∧ lkV (fun i => s1 (232 + 140 * a + i)) mm 0 0 ∧ ∀ f : Nat → Int32, -1000 ≤ (lkE (fun i => s1 (232 + 140 * a + i)) f mm 0 [] 0).toInt ∧ (lkE (fun i => s1 (232 + 140 * a + i)) f mm 0 [] 0).toInt ≤ 1000 := by
  intro a ha
  obtain ⟨b1, b2, mm, b3, b4, b5, b6⟩ := hR.2.2.2.2.1.1 a (by omega)
  rw [h (217 + a) (by omega) (by omega) (by omega) (by omega) (by omega), h (222 + a) (by omega) (by omega) (by omega) (by omega) (by omega), h (227 + a) (by omega) (by omega) (by omega) (by omega) (by omega)]
  have e : ∀ i, i < 140 → s1 (232 + 140 * a + i) = S (232 + 140 * a + i) := fun i hi => h _ (by omega) (by omega) (by omega) (by omega) (by omega)
  refine ⟨b1, b2, mm, b3, b4, ?_, fun f => ?_⟩
  · rw [lkV_p (p' := fun i => S (232 + 140 * a + i)) (fun j hj => e j (by omega))]; exact b5
  · rw [lkE_p (p' := fun i => S (232 + 140 * a + i)) (fun j hj => e j (by omega))]; exact b6 f

/-- what land leaves -/
def xLq (nx : Nat) (sh : Nat → Nat × Nat) (P : Nat → Nat → Option Nat) (I : Nat → Nat → Int32) (r : Option Value) (σ : xS) : Prop := ∃ (I1 : Nat → Nat → Int32) (a : Int32), r = some (.int a) ∧ σ = (nx, sh, P, I1) ∧ xFrm [127, 128] I I1 ∧ xFd [4, 5, 6, 7, 8] I I1 ∧
  ((I 128 2 = 5 ∧ a = -4 ∧ I1 128 = I 128) ∨ (¬ I 128 2 = 5 ∧ ∃ res sp, ldF (txt (I 128)) (cN (I 128) 7) 10 0 res sp ∧ sp ≤ 200 ∧ RI (I1 128) ∧ (∀ j, j < 217 → j ≠ 2 → j ≠ 7 → j ≠ 8 → I1 128 j = I 128 j) ∧ I1 128 7 = 0 ∧
    ((res = none ∧ a = -10 - nI sp ∧ I1 128 2 = I 128 2 ∧ I1 128 8 = I 128 8 ∧ tlO (I1 128) 217 9 = tlO (I 128) 217 9 ∧ tlO (I1 128) 222 0 = tlO (I 128) 222 0 ∧ ∀ f, LK (I1 128) f = LK (I 128) f) ∨
     ∃ cs cv, res = some cs ∧ csOf cs cv ∧ a = I 128 2 ∧ I1 128 2 = I 128 2 + 1 ∧ I1 128 8 = I 128 2 ∧ tlO (I1 128) 217 9 = lst 0 9 cv ∧ tlO (I1 128) 222 0 = lst 1 0 cv ∧ ∀ f, LK (I1 128) f = dl f 0 cv)))
theorem LK_at {s f : Nat → Int32} {a mm : Nat} (ha : a ≤ 4) (h8 : s 8 = nI a) (hm : s (227 + a) = nI mm) (hmm : mm ≤ 140) : LK s f = lkE (fun i => s (232 + 140 * a + i)) f mm 0 [] 0 := by
  unfold LK
  rw [if_neg (by rw [h8]; exact nI_nm1 (by omega)), h8, nI_clamp (by omega), hm, nI_clamp (by omega)]
theorem tlO_at {s : Nat → Int32} {a w : Nat} {v : Int32} (ha : a ≤ 4) (h8 : s 8 = nI a) : tlO s w v = s (w + a) := by
  unfold tlO
  rw [if_neg (by rw [h8]; exact nI_nm1 (by omega)), h8, nI_clamp (by omega)]
theorem ld_bad {S s1 : Nat → Int32} {n2 : Nat} (hR : RI S) (e2 : S 2 = nI n2) (h4 : n2 ≤ 4) (h : ∀ j, j < 232 + 140 * n2 → j ≠ 7 → j ≠ 217 + n2 → j ≠ 222 + n2 → j ≠ 227 + n2 → s1 j = S j) (h7 : s1 7 = 0) : RI s1 ∧ tlO s1 217 9 = tlO S 217 9 ∧ tlO s1 222 0 = tlO S 222 0 ∧ ∀ f, LK s1 f = LK S f := by
  have hc : cN S 2 = n2 := cN_of e2 (by omega)
  have hold := xLy.old hR h4 hc h
  have e8 : s1 8 = S 8 := h 8 (by omega) (by omega) (by omega) (by omega) (by omega)
  have e22 : s1 2 = S 2 := h 2 (by omega) (by omega) (by omega) (by omega) (by omega)
  refine ⟨hR.ld (n2 := n2) (fun j a1 a2 a3 a4 => h j (by omega) a3 (by omega) (by omega) (by omega)) h7 (e22.trans e2) (by omega) ⟨fun a ha => hold a (by rw [cN_eq e22, hc] at ha; exact ha), ?_⟩, ?_⟩
  · rw [e8, cN_eq e22]; exact hR.hold
  · rcases hR.hold with z | ⟨a, ha, z⟩
    · have z1 := e8.trans z
      exact ⟨by unfold tlO; rw [if_pos z, if_pos z1], by unfold tlO; rw [if_pos z, if_pos z1], fun f => by unfold LK; rw [if_pos z, if_pos z1]⟩
    · have z1 := e8.trans z
      rw [hc] at ha
      obtain ⟨-, -, mm, q1, q2, -⟩ := hR.2.2.2.2.1.1 a (by omega)
      refine ⟨?_, ?_, fun f => ?_⟩
      · rw [tlO_at (by omega) z, tlO_at (by omega) z1]; exact h _ (by omega) (by omega) (by omega) (by omega) (by omega)
      · rw [tlO_at (by omega) z, tlO_at (by omega) z1]; exact h _ (by omega) (by omega) (by omega) (by omega) (by omega)
      · rw [LK_at (by omega) z q2 q1, LK_at (by omega) z1 ((h _ (by omega) (by omega) (by omega) (by omega) (by omega)).trans q2) q1]
        exact lkE_p (fun j hj => h _ (by omega) (by omega) (by omega) (by omega) (by omega))
theorem ld_good {S s1 s2 : Nat → Int32} {n2 : Nat} {L : List Int32} {cs : List CL} {cv : List CV} (hR : RI S) (e2 : S 2 = nI n2) (h4 : n2 ≤ 4) (h : xLy S s1 n2 L cv) (hcs : csOf cs cv) (hl : L.length ≤ 140) (hcl : cs.length ≤ 10) (hs : s2 = upd (upd s1 2 (nI (n2 + 1))) 8 (nI n2)) : RI s2 ∧ tlO s2 217 9 = lst 0 9 cv ∧ tlO s2 222 0 = lst 1 0 cv ∧ (∀ f, LK s2 f = dl f 0 cv) ∧ (∀ j, j < 217 → j ≠ 2 → j ≠ 7 → j ≠ 8 → s2 j = S j) ∧ s2 7 = 0 ∧ s2 2 = nI (n2 + 1) ∧ s2 8 = nI n2 := by
  obtain ⟨a1, a2, a3, a4, a5, a6, a7⟩ := h
  have hc : cN S 2 = n2 := cN_of e2 (by omega)
  have hold := xLy.old hR h4 hc a1
  have eo : ∀ j, j ≠ 2 → j ≠ 8 → s2 j = s1 j := fun j b1 b2 => by rw [hs, upd_n b2, upd_n b1]
  have f2 : s2 2 = nI (n2 + 1) := by rw [hs, upd_n (by decide), upd_e]
  have f8 : s2 8 = nI n2 := by rw [hs, upd_e]
  obtain ⟨h9, h10⟩ := a7 (fun i => s1 (232 + 140 * n2 + i)) 0 (fun j hj => by rw [Nat.zero_add]; exact a4 j hj)
  have hK : ∀ f, lkE (fun i => s2 (232 + 140 * n2 + i)) f L.length 0 [] 0 = dl f 0 cv := fun f => by
    rw [lkE_p (p' := fun i => s1 (232 + 140 * n2 + i)) (fun j _ => eo _ (by omega) (by omega))]
    exact h9 f 0 0
  have hV : lkV (fun i => s2 (232 + 140 * n2 + i)) L.length 0 0 := by
    rw [lkV_p (p' := fun i => s1 (232 + 140 * n2 + i)) (fun j _ => eo _ (by omega) (by omega))]
    exact h10 0 trivial
  have h27 : s2 (227 + n2) = nI L.length := (eo _ (by omega) (by omega)).trans a3
  have fr : ∀ j, j < 217 → j ≠ 2 → j ≠ 7 → j ≠ 8 → s2 j = S j := fun j b1 b2 b3 b4 => (eo j b2 b4).trans (a1 j (by omega) b3 (by omega) (by omega) (by omega))
  have f7 : s2 7 = 0 := (eo 7 (by decide) (by decide)).trans a2
  refine ⟨hR.ld (n2 := n2 + 1) fr f7 f2 (by omega) ⟨fun a ha => ?_, Or.inr ⟨n2, by rw [cN_of f2 (by omega)]; omega, f8⟩⟩, ?_, ?_, ?_, fr, f7, f2, f8⟩
  · rw [cN_of f2 (by omega)] at ha
    by_cases han : a = n2
    · subst han
      refine ⟨?_, ?_, L.length, hl, h27, hV, fun f => ?_⟩
      · rw [eo _ (by omega) (by omega), a5]; exact lst_bd cs cv 9 hcs (by omega)
      · rw [eo _ (by omega) (by omega), a6]; exact lst_bd cs cv 0 hcs (by omega)
      · rw [hK f]
        have h11 := dl_bd (f := f) cs cv 0 0 hcs (by decide) (by decide) (by omega)
        omega
    · obtain ⟨c1, c2, mm, c3, c4, c5, c6⟩ := hold a (by omega)
      rw [eo (217 + a) (by omega) (by omega), eo (222 + a) (by omega) (by omega), eo (227 + a) (by omega) (by omega)]
      refine ⟨c1, c2, mm, c3, c4, ?_, fun f => ?_⟩
      · rw [lkV_p (p' := fun i => s1 (232 + 140 * a + i)) (fun j _ => eo _ (by omega) (by omega))]; exact c5
      · rw [lkE_p (p' := fun i => s1 (232 + 140 * a + i)) (fun j _ => eo _ (by omega) (by omega))]; exact c6 f
  · rw [tlO_at h4 f8, eo _ (by omega) (by omega)]; exact a5
  · rw [tlO_at h4 f8, eo _ (by omega) (by omega)]; exact a6
  · intro f
    rw [LK_at h4 f8 h27 hl]; exact hK f