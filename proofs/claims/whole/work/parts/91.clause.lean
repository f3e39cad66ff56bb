/-! a clause of the class read: words with and without the blank; cells grow -/
theorem spL_c {T : Nat → Int32} {en a b sp : Nat} {w : Bool} : ∀ n, (∀ j, j < n → sg a j = sg b j) → spL T en a sp w n = spL T en b sp w n
  | 0, _ => rfl
  | n + 1, h => by
    show (muS T en (spL T en a sp w n).1 (spL T en a sp w n).2 (sg a n), muW T en (spL T en a sp w n).1 (spL T en a sp w n).2 (sg a n)) = (muS T en (spL T en b sp w n).1 (spL T en b sp w n).2 (sg b n), muW T en (spL T en b sp w n).1 (spL T en b sp w n).2 (sg b n))
    rw [spL_c n (fun j hj => h j (by omega)), h n (Nat.lt_succ_self _)]
theorem sg_66 : ∀ k : Fin 4, xTl.getD (6 + k.1) 0 = xTl.getD k.1 0 + 1 ∧ sg (6 + k.1) (xTl.getD k.1 0) = 32 ∧ ∀ j : Fin 6, j.1 < xTl.getD k.1 0 → sg (6 + k.1) j.1 = sg k.1 j.1 := by decide +kernel
theorem chA_e {T : Nat → Int32} {en sp k : Nat} (hk : k < 4) : chA T en sp k = (muS T en (spL T en k sp false (xTl.getD k 0)).1 (spL T en k sp false (xTl.getD k 0)).2 32, muW T en (spL T en k sp false (xTl.getD k 0)).1 (spL T en k sp false (xTl.getD k 0)).2 32) := by
  obtain ⟨h1, h2, h3⟩ := sg_66 ⟨k, hk⟩
  have h6 : xTl.getD k 0 ≤ 6 := tl_6 ⟨k, by omega⟩
  have h1 : xTl.getD (6 + k) 0 = xTl.getD k 0 + 1 := h1
  have h2 : sg (6 + k) (xTl.getD k 0) = 32 := h2
  unfold chA
  rw [h1]
  show (muS T en (spL T en (6 + k) sp false (xTl.getD k 0)).1 (spL T en (6 + k) sp false (xTl.getD k 0)).2 (sg (6 + k) (xTl.getD k 0)), muW T en (spL T en (6 + k) sp false (xTl.getD k 0)).1 (spL T en (6 + k) sp false (xTl.getD k 0)).2 (sg (6 + k) (xTl.getD k 0))) = _
  rw [h2, spL_c (a := 6 + k) (b := k) (xTl.getD k 0) (fun j hj => h3 ⟨j, by omega⟩ hj)]
theorem clW_4 {T : Nat → Int32} {en sp : Nat} : clW T en sp ≤ 4 := by unfold clW; repeat (split <;> try decide)
/-- a wrong number, or a wrong start, is a FAULT there -/
theorem ck_n {T : Nat → Int32} {en sp k : Nat} (hk : k < 4) (h : chW T en sp k = true) : ckR T en sp k none (chN T en sp k).2 := by
  unfold ckR
  by_cases h2 : k < 2
  · exact Or.inr (Or.inl ⟨h2, h, rfl, rfl⟩)
  · refine Or.inr (Or.inr (Or.inr (Or.inl ⟨by omega, hk, ?_, rfl, ?_⟩)))
    · unfold chM; rw [h]; rfl
    · unfold chS; rw [h]; rfl
theorem ck_a {T : Nat → Int32} {en sp k : Nat} (hk : k < 4) (h : (chA T en sp k).2 = true) : ckR T en sp k none (chA T en sp k).1 := by
  have hW : chW T en sp k = true := by unfold chW; rw [h]; exact fgW_t
  have hN : (chN T en sp k).2 = (chA T en sp k).1 := by unfold chN; rw [h, fgS_w fgW_t]
  have := ck_n hk hW
  rw [hN] at this
  exact this
theorem rw_bad {T : Nat → Int32} {en sp : Nat} (h : rwV T en sp = -1) : clR T en sp none (rwS T en sp) := by
  unfold clR
  by_cases h4 : clW T en sp = 4
  · unfold rwS; rw [if_pos h4, h4]; exact Or.inl ⟨rfl, rfl, rfl⟩
  · have hk : clW T en sp < 4 := by have := clW_4 (T := T) (en := en) (sp := sp); omega
    unfold rwV at h
    rw [if_neg h4] at h
    by_cases hw : (spL T en (clW T en sp) sp false (xTl.getD (clW T en sp) 0)).2 = true
    · unfold rwS
      rw [if_neg h4]
      have e := chA_e (T := T) (en := en) (sp := sp) hk
      rw [hw] at e
      have := ck_a (T := T) (en := en) (sp := sp) hk (by rw [e]; rfl)
      rw [e] at this
      exact this
    · rw [if_neg hw] at h
      exact absurd h (nI_m1 (by omega))
theorem rw_ok {T : Nat → Int32} {en sp : Nat} (h : ¬ rwV T en sp = -1) : clW T en sp < 4 ∧ rwV T en sp = nI (clW T en sp) ∧ chA T en sp (clW T en sp) = (muS T en (rwS T en sp) false 32, muW T en (rwS T en sp) false 32) := by
  unfold rwV at h ⊢
  by_cases h4 : clW T en sp = 4
  · rw [if_pos h4] at h; exact absurd rfl h
  · have hk : clW T en sp < 4 := by have := clW_4 (T := T) (en := en) (sp := sp); omega
    rw [if_neg h4] at h ⊢
    by_cases hw : (spL T en (clW T en sp) sp false (xTl.getD (clW T en sp) 0)).2 = true
    · rw [if_pos hw] at h; exact absurd rfl h
    · refine ⟨hk, by rw [if_neg hw], ?_⟩
      unfold rwS
      rw [if_neg h4, chA_e hk, Bool.eq_false_iff.mpr hw]
theorem vu_e {α : Type} {f : Nat → α} {a : Nat} {v : α} : va_up f a v a = v := if_pos rfl
theorem vu_n {α : Type} {f : Nat → α} {a b : Nat} {v : α} (h : b ≠ a) : va_up f a v b = f b := if_neg h
/-- cells have come; of those that were there, only those of l may have changed -/
def xGr (nx : Nat) (sh : Nat → Nat × Nat) (P : Nat → Nat → Option Nat) (I : Nat → Nat → Int32) (sh1 : Nat → Nat × Nat) (P1 : Nat → Nat → Option Nat) (I1 : Nat → Nat → Int32) (l : List Nat) : Prop := (∀ a, a < nx → sh1 a = sh a ∧ P1 a = P a) ∧ ∀ a, a < nx → a ∉ l → I1 a = I a
theorem xPt_l : ∀ q ∈ xPtT, q.1 < 144 := by decide +kernel
theorem xFx.gr {nx : Nat} {sh sh1 : Nat → Nat × Nat} {P P1 : Nat → Nat → Option Nat} {I I1 : Nat → Nat → Int32} {l : List Nat} (h : xFx sh P) (hn : 144 ≤ nx) (hg : xGr nx sh P I sh1 P1 I1 l) : xFx sh1 P1 := ⟨fun i hi => by rw [(hg.1 (64 + i) (by omega)).1]; exact h.1 i hi, fun q hq => by rw [(hg.1 q.1 (by have := xPt_l q hq; omega)).2]; exact h.2 q hq⟩
theorem xFx.va {nx : Nat} {sh : Nat → Nat × Nat} {P : Nat → Nat → Option Nat} {v : Nat × Nat} {f : Nat → Option Nat} (h : xFx sh P) (hn : 144 ≤ nx) : xFx (va_up sh nx v) (va_up P nx f) := ⟨fun i hi => by unfold va_up; rw [if_neg (by omega)]; exact h.1 i hi, fun q hq => by unfold va_up; rw [if_neg (by have := xPt_l q hq; omega)]; exact h.2 q hq⟩
theorem xGr.rf {nx : Nat} {sh : Nat → Nat × Nat} {P : Nat → Nat → Option Nat} {I I1 : Nat → Nat → Int32} {l : List Nat} (h : xFrm l I I1) : xGr nx sh P I sh P I1 l := ⟨fun _ _ => ⟨rfl, rfl⟩, fun a _ ha => h a ha⟩
theorem xGr.tr {nx nx1 : Nat} {sh sh1 sh2 : Nat → Nat × Nat} {P P1 P2 : Nat → Nat → Option Nat} {I I1 I2 : Nat → Nat → Int32} {l : List Nat} (h : xGr nx sh P I sh1 P1 I1 l) (h2 : xGr nx1 sh1 P1 I1 sh2 P2 I2 l) (hn : nx ≤ nx1) : xGr nx sh P I sh2 P2 I2 l := ⟨fun a ha => ⟨(h2.1 a (by omega)).1.trans (h.1 a ha).1, (h2.1 a (by omega)).2.trans (h.1 a ha).2⟩, fun a ha hl => (h2.2 a (by omega) hl).trans (h.2 a ha hl)⟩
theorem xGr.mono {nx : Nat} {sh sh1 : Nat → Nat × Nat} {P P1 : Nat → Nat → Option Nat} {I I1 : Nat → Nat → Int32} {l l1 : List Nat} (h : xGr nx sh P I sh1 P1 I1 l) (hl : ∀ a ∈ l, a ∈ l1 := by decide) : xGr nx sh P I sh1 P1 I1 l1 := ⟨h.1, fun a ha h2 => h.2 a ha (fun z => h2 (hl a z))⟩
/-- a new clause -/
theorem cla_new {nx : Nat} {sh : Nat → Nat × Nat} {P : Nat → Nat → Option Nat} {I : Nat → Nat → Int32} {k : Nat} {v : Int32} {cd : List Int32} (hn : 144 ≤ nx) (hk : k < 4) (hl : cd.length < 100) (hc : ∀ j, j < cd.length → I 99 j = cd.getD j 0) (ht : 2 ≤ k → tkE 1 cd = some 1) {I1 : Nat → Nat → Int32} (e1 : I1 = xup (xup (va_up (va_up (va_up I nx (fun _ => 0)) (nx + 1) (fun _ => 0)) (nx + 1) (xTk (va_up (va_up I nx (fun _ => 0)) (nx + 1) (fun _ => 0) 99) (va_up (va_up I nx (fun _ => 0)) (nx + 1) (fun _ => 0) (nx + 1)) cd.length)) nx 0 (nI k)) nx 1 v) : xGr nx sh P I (va_up (va_up sh nx (2, 0)) (nx + 1) (12, cd.length)) (xrp (va_up (va_up P nx (fun _ => none)) (nx + 1) (fun _ => none)) nx 2 (some (nx + 1))) I1 [] ∧ xCla (nx + 2) (va_up (va_up sh nx (2, 0)) (nx + 1) (12, cd.length)) (xrp (va_up (va_up P nx (fun _ => none)) (nx + 1) (fun _ => none)) nx 2 (some (nx + 1))) I1 nx (nx + 1) (k, v, cd) := by
  refine ⟨⟨fun a ha => ⟨?_, ?_⟩, fun a ha _ => ?_⟩, ⟨⟨hn, by omega, by omega, by omega⟩, ?_, ?_, ?_, ?_, ?_, by show cd.length ≤ 100; omega, fun j hj => ?_, hk, ht⟩⟩
  · rw [vu_n (by omega), vu_n (by omega)]
  · rw [xrp_n (by omega), vu_n (by omega), vu_n (by omega)]
  · rw [e1, xup_n (by omega), xup_n (by omega), va_up_no (by omega), va_up_no (by omega), va_up_no (by omega)]
  · rw [vu_n (by omega), vu_e]
  · rw [e1, xf (by decide), xs]
  · rw [e1, xs]
  · rw [xrp_s, vu_e]
  · rw [vu_e]
  · have hj : j < cd.length := hj
    rw [e1, xo (by omega), xo (by omega), va_up_at, xTk_r hj, va_up_no (by omega), va_up_no (by omega)]
    exact hc j hj
/-- a clause more in a land -/
theorem xLnd.add {nx : Nat} {sh : Nat → Nat × Nat} {P : Nat → Nat → Option Nat} {I : Nat → Nat → Int32} {la ar cl co : Nat} {cs : List CL} {d : CL} (h : xLnd nx sh P I la ar cs) (hc : xCla nx sh P I cl co d) (hl : cs.length < 10) : xLnd nx sh (xrp P ar cs.length (some cl)) (xup I la 1 (nI (cs.length + 1))) la ar (cs ++ [d]) := by
  obtain ⟨h1, h2, h3, h4, h5, h6, h7⟩ := h
  have hne : la ≠ ar := fun z => by rw [z, h4] at h2; exact absurd h2 (by decide)
  have hm2 : ∀ cl2 co d, xCla nx sh P I cl2 co d → xCla nx sh (xrp P ar cs.length (some cl)) (xup I la 1 (nI (cs.length + 1))) cl2 co d := fun cl2 co d hc => by
    obtain ⟨g1, g2, g3, g4, g5, g6, g7, g8, g9, g10⟩ := hc
    have k1 : cl2 ≠ la := fun z => by rw [z] at g2; exact absurd (g2.symm.trans h2) (by decide)
    have k2 : cl2 ≠ ar := fun z => by rw [z, h4] at g2; exact absurd g2 (by decide)
    have k3 : co ≠ la := fun z => by rw [z] at g6; rw [g6] at h2; exact absurd h2 (show ¬ (12 : Nat) = 4 by decide)
    exact ⟨g1, g2, by rw [xo k1]; exact g3, by rw [xo k1]; exact g4, by rw [xrp_n k2]; exact g5, g6, g7, fun j hj => by rw [xo k3]; exact g8 j hj, g9, g10⟩
  refine ⟨h1, h2, by rw [xrp_n hne]; exact h3, h4, by rw [List.length_append]; exact xs, by rw [List.length_append]; show cs.length + 1 ≤ 10; omega, fun i hi => ?_⟩
  obtain ⟨y1, y2⟩ := h7 i hi
  by_cases e : i = cs.length
  · subst e
    refine ⟨fun d2 hd2 => ?_, fun hd2 => ?_⟩
    · rw [List.getElem?_append_right (Nat.le_refl _), Nat.sub_self] at hd2
      cases hd2
      exact ⟨cl, co, by rw [xrp_s, vu_e], hm2 _ _ _ hc⟩
    · rw [List.getElem?_append_right (Nat.le_refl _), Nat.sub_self] at hd2
      cases hd2
  · have hP : xrp P ar cs.length (some cl) ar i = P ar i := by rw [xrp_s, vu_n e]
    rw [hP]
    by_cases hlt : i < cs.length
    · rw [List.getElem?_append_left hlt]
      refine ⟨fun d2 hd2 => ?_, y2⟩
      obtain ⟨c2, o2, z1, z2⟩ := y1 d2 hd2
      exact ⟨c2, o2, z1, hm2 _ _ _ z2⟩
    · refine ⟨fun d2 hd2 => ?_, fun _ => y2 (List.getElem?_eq_none (by omega))⟩
      rw [List.getElem?_eq_none (by rw [List.length_append]; show cs.length + 1 ≤ i; omega)] at hd2
      cases hd2
