/-! the reference's reader: what it holds, what it writes -/
/-- steps L written from a on -/
def wrL (s : Nat → Int32) (a : Nat) (L : List Int32) : Nat → Int32 := fun j => if a ≤ j ∧ j < a + L.length then L.getD (j - a) 0 else s j
/-- steps L written behind mm others, land ac -/
def xWr (s s1 : Nat → Int32) (ac mm : Nat) (L : List Int32) : Prop := s1 = upd (wrL s (232 + 140 * ac + mm) L) (227 + ac) (nI (mm + L.length))
theorem wrL_0 {s : Nat → Int32} {a : Nat} : wrL s a [] = s := by funext j; unfold wrL; rw [if_neg (by show ¬ (a ≤ j ∧ j < a + 0); omega)]
theorem xWr.rf {s : Nat → Int32} {ac mm : Nat} (h : s (227 + ac) = nI mm) : xWr s s ac mm [] := by
  unfold xWr
  rw [wrL_0]
  show s = upd s (227 + ac) (nI mm)
  rw [← h, upd_id]
theorem xWr.tr {s s1 s2 : Nat → Int32} {ac mm : Nat} {L L2 : List Int32} (h4 : ac ≤ 4) (h : xWr s s1 ac mm L) (h2 : xWr s1 s2 ac (mm + L.length) L2) : xWr s s2 ac mm (L ++ L2) := by
  unfold xWr at h h2 ⊢
  rw [h2, h]
  funext j
  unfold upd wrL
  rw [List.length_append]
  by_cases hj : j = 227 + ac
  · rw [if_pos hj, if_pos hj, Nat.add_assoc]
  · rw [if_neg hj, if_neg hj]
    by_cases h3 : 232 + 140 * ac + (mm + L.length) ≤ j ∧ j < 232 + 140 * ac + (mm + L.length) + L2.length
    · rw [if_pos h3, if_pos (by omega), ← gD_r (L := L) (L2 := L2)]
      congr 1; omega
    · rw [if_neg h3]
      show (if j = 227 + ac then _ else _) = _
      rw [if_neg hj]
      by_cases h5 : 232 + 140 * ac + mm ≤ j ∧ j < 232 + 140 * ac + mm + L.length
      · rw [if_pos h5, if_pos (by omega), gD_l (by omega)]
      · rw [if_neg h5, if_neg (by omega)]
theorem xWr.em {s : Nat → Int32} {ac mm : Nat} {x : Int32} : xWr s (upd (upd s (232 + 140 * ac + mm) x) (227 + ac) (nI (mm + 1))) ac mm [x] := by
  unfold xWr
  congr 1
  funext j
  unfold upd wrL
  by_cases h : j = 232 + 140 * ac + mm
  · rw [if_pos h, if_pos (by show _ ∧ j < _ + 1; omega), h, Nat.sub_self]; rfl
  · rw [if_neg h, if_neg (by show ¬ (_ ∧ j < _ + 1); omega)]
theorem xWr.no {s s1 : Nat → Int32} {ac mm j : Nat} {L : List Int32} (h : xWr s s1 ac mm L) (h4 : ac ≤ 4) (hj : j < 232 + 140 * ac + mm) (hj2 : j ≠ 227 + ac) : s1 j = s j := by
  rw [h]
  unfold upd wrL
  rw [if_neg hj2, if_neg (by omega)]
theorem xWr.cn {s s1 : Nat → Int32} {ac mm : Nat} {L : List Int32} (h : xWr s s1 ac mm L) : s1 (227 + ac) = nI (mm + L.length) := by
  rw [h]; exact if_pos rfl
theorem xWr.hr {s s1 : Nat → Int32} {ac mm en : Nat} {L : List Int32} (h : xWr s s1 ac mm L) (h4 : ac ≤ 4) (hen : en ≤ 100) : hrT (txt s1) en = hrT (txt s) en := by
  funext q
  unfold hrT
  by_cases hq : q < en
  · rw [if_pos hq, if_pos hq]
    exact h.no h4 (by omega) (by omega)
  · rw [if_neg hq, if_neg hq]
/-- the reader at work on the text T: at sp, op open, land ac with mm steps -/
def xPa (I : Nat → Nat → Int32) (T : Nat → Int32) (en sp : Nat) (wr : Bool) (op ac mm : Nat) : Prop := xRd I sp en wr ∧ I 127 8 = nI op ∧ I 127 4 = nI ac ∧ ac ≤ 4 ∧ I 128 (227 + ac) = nI mm ∧ mm ≤ sp ∧ sp ≤ en ∧ hrT (txt (I 128)) en = hrT T en
/-- what the reader has done -/
def xPt (I I1 : Nat → Nat → Int32) (ac mm : Nat) (L : List Int32) : Prop := xFrm [127, 128] I I1 ∧ xFd [5, 7, 8] I I1 ∧ xWr (I 128) (I1 128) ac mm L
theorem xPt.tr {I I1 I2 : Nat → Nat → Int32} {ac mm : Nat} {L L2 : List Int32} (h4 : ac ≤ 4) (h : xPt I I1 ac mm L) (h2 : xPt I1 I2 ac (mm + L.length) L2) : xPt I I2 ac mm (L ++ L2) :=
  ⟨h.1.tr (l1 := [127, 128]) (l2 := [127, 128]) h2.1, xFd.tr (l := [5, 7, 8]) (l1 := [5, 7, 8]) h.2.1 h2.2.1, h.2.2.tr h4 h2.2.2⟩
theorem xPt.rf {I : Nat → Nat → Int32} {ac mm : Nat} (h : I 128 (227 + ac) = nI mm) : xPt I I ac mm [] := ⟨xFrm.rf, xFd.rf, xWr.rf h⟩
def emL (wr : Bool) (x : Int32) : List Int32 := if wr = true then [] else [x]
theorem fgW_t {T : Nat → Int32} {en sp : Nat} : fgW T en sp true = true := by unfold fgW; rfl
theorem emL_t {x : Int32} : emL true x = [] := rfl
theorem emL_f {x : Int32} : emL false x = [x] := rfl
theorem emL_l {wr : Bool} {x : Int32} : (emL wr x).length ≤ 1 := by cases wr; exact Nat.le_refl _; exact Nat.zero_le _
theorem q_here {g : xG} {nx : Nat} {sh : Nat → Nat × Nat} {P : Nat → Nat → Option Nat} {I : Nat → Nat → Int32} (hx : xFx sh P) {T : Nat → Int32} {en sp op ac mm : Nat} {wr : Bool} (hp : xPa I T en sp wr op ac mm) : xMet g Y_M_here 0 0 0 [.ref 127] (nx, sh, P, I) (fun r σ => r = some (.int (hrT T en sp)) ∧ σ = (nx, sh, P, I)) := by
  rw [← hp.2.2.2.2.2.2.2]
  exact r_here hx hp.1
/-- a change of the reader's fields alone -/
theorem xPa.fd {I I1 : Nat → Nat → Int32} {T : Nat → Int32} {en sp op ac mm sp1 : Nat} {wr wr1 : Bool} (hp : xPa I T en sp wr op ac mm) (hF : xFrm [127] I I1) (hD : xFd [5, 7] I I1) (hq : xRd I1 sp1 en wr1) (h1 : sp ≤ sp1) (h2 : sp1 ≤ en) : xPt I I1 ac mm [] ∧ xPa I1 T en sp1 wr1 op ac mm := by
  obtain ⟨-, h8, h4, ha4, hm, hms, -, hT⟩ := hp
  have e : I1 128 = I 128 := hF 128 (by decide)
  exact ⟨⟨hF.mono, fun b hb => hD b (fun z => hb (by grind)), by rw [e]; exact xWr.rf hm⟩, hq, (hD 8 (by decide)).trans h8, (hD 4 (by decide)).trans h4, ha4, by rw [e]; exact hm, by omega, h2, by rw [e]; exact hT⟩
theorem xPa.wr {I : Nat → Nat → Int32} {T : Nat → Int32} {en sp op ac mm : Nat} {wr : Bool} (hp : xPa I T en sp wr op ac mm) (w : Bool) : xPt I (xup I 127 7 (bv w)) ac mm [] ∧ xPa (xup I 127 7 (bv w)) T en sp w op ac mm := by
  obtain ⟨⟨h5, h6, h7, hen, hsp⟩, h8, h4, ha4, hm, hms, hse, hT⟩ := id hp
  have e : xup I 127 7 (bv w) 128 = I 128 := xup_n (by decide)
  refine ⟨⟨xFrs xFrm.rf, xFdx xFd.rf, by rw [e]; exact xWr.rf hm⟩, ⟨?_, ?_, ?_, hen, hsp⟩, ?_, ?_, ha4, by rw [e]; exact hm, hms, hse, by rw [e]; exact hT⟩
  · rw [xup_at, if_neg (by decide)]; exact h5
  · rw [xup_at, if_neg (by decide)]; exact h6
  · rw [xup_at, if_pos ⟨rfl, rfl⟩]
  · rw [xup_at, if_neg (by decide)]; exact h8
  · rw [xup_at, if_neg (by decide)]; exact h4
/-- one sign further -/
theorem xPa.sp {I : Nat → Nat → Int32} {T : Nat → Int32} {en sp op ac mm : Nat} {wr : Bool} (hp : xPa I T en sp wr op ac mm) (hlt : sp < en) : xPt I (xup I 127 5 (nI (sp + 1))) ac mm [] ∧ xPa (xup I 127 5 (nI (sp + 1))) T en (sp + 1) wr op ac mm := by
  obtain ⟨⟨h5, h6, h7, hen, hsp⟩, h8, h4, ha4, hm, hms, hse, hT⟩ := id hp
  have e : xup I 127 5 (nI (sp + 1)) 128 = I 128 := xup_n (by decide)
  refine ⟨⟨xFrs xFrm.rf, xFdx xFd.rf, by rw [e]; exact xWr.rf hm⟩, ⟨?_, ?_, ?_, hen, by omega⟩, ?_, ?_, ha4, by rw [e]; exact hm, by omega, by omega, by rw [e]; exact hT⟩
  · rw [xup_at, if_pos ⟨rfl, rfl⟩]
  · rw [xup_at, if_neg (by decide)]; exact h6
  · rw [xup_at, if_neg (by decide)]; exact h7
  · rw [xup_at, if_neg (by decide)]; exact h8
  · rw [xup_at, if_neg (by decide)]; exact h4
theorem muS_ge {T : Nat → Int32} {en sp : Nat} {wr : Bool} {c : Int32} : sp ≤ muS T en sp wr c := by unfold muS; split <;> omega
theorem muS_en {T : Nat → Int32} {en sp : Nat} {wr : Bool} {c : Int32} (hc : ¬ c = -1) (h : sp ≤ en) : muS T en sp wr c ≤ en := by
  unfold muS
  split
  · exact h
  · rename_i z
    unfold muW at z
    have z2 : hrT T en sp = c := by
      cases wr
      · by_cases h3 : hrT T en sp = c
        · exact h3
        · rw [decide_eq_false h3] at z; exact absurd rfl z
      · exact absurd rfl z
    have := hrT_lt (T := T) (en := en) (sp := sp) (by rw [z2]; exact hc)
    omega
theorem q_must {g : xG} {nx : Nat} {sh : Nat → Nat × Nat} {P : Nat → Nat → Option Nat} {I : Nat → Nat → Int32} (hx : xFx sh P) {T : Nat → Int32} {en sp op ac mm : Nat} {wr : Bool} {c : Int32} (hp : xPa I T en sp wr op ac mm) (hc : ¬ c = -1) : xMet g Y_M_must 1 0 0 [.ref 127, .int c] (nx, sh, P, I) (fun r σ => ∃ I1 : Nat → Nat → Int32, r = none ∧ σ = (nx, sh, P, I1) ∧ xPt I I1 ac mm [] ∧ xPa I1 T en (muS T en sp wr c) (muW T en sp wr c) op ac mm) := by
  have hq := hp.1
  have hse := hp.2.2.2.2.2.2.1
  have hen := hq.2.2.2.1
  refine (r_must (c := c) hx hq (by omega)).po ?_
  rintro _ _ ⟨I1, rfl, rfl, hF, hD, hq1⟩
  rw [muS_e hp.2.2.2.2.2.2.2, muW_e hp.2.2.2.2.2.2.2] at hq1
  exact ⟨I1, rfl, rfl, hp.fd hF hD hq1 muS_ge (muS_en hc hse)⟩
theorem q_figures {g : xG} {nx : Nat} {sh : Nat → Nat × Nat} {P : Nat → Nat → Option Nat} {I : Nat → Nat → Int32} (hx : xFx sh P) {T : Nat → Int32} {en sp op ac mm : Nat} {wr : Bool} (hp : xPa I T en sp wr op ac mm) : xMet g Y_M_figures 1 0 0 [.ref 127] (nx, sh, P, I) (fun r σ => ∃ I1 : Nat → Nat → Int32, r = some (.int (fgS T en sp wr).1) ∧ σ = (nx, sh, P, I1) ∧ xPt I I1 ac mm [] ∧ xPa I1 T en (fgS T en sp wr).2 (fgW T en sp wr) op ac mm) := by
  have hq := hp.1
  have hse := hp.2.2.2.2.2.2.1
  have hen := hq.2.2.2.1
  refine (r_figures hx hq (by omega)).po ?_
  rintro _ _ ⟨I1, rfl, rfl, hF, hD, hq1⟩
  rw [fgS_e hp.2.2.2.2.2.2.2, fgW_e hp.2.2.2.2.2.2.2] at hq1
  exact ⟨I1, by rw [fgS_e hp.2.2.2.2.2.2.2], rfl, hp.fd hF hD hq1 fgS_ge (fgS_en hse)⟩
theorem sg_nm : ∀ i : Fin 10, ∀ q : Fin 6, ¬ sg i.1 q.1 = -1 := by decide +kernel
theorem amS_ge {T : Nat → Int32} {en i sp m k : Nat} : sp ≤ (amS T en i sp m k).2 := by
  rcases amS_or (T := T) (en := en) (i := i) (sp := sp) m k with ⟨h, -⟩ | ⟨q, -, -, h, -, -⟩ <;> rw [h] <;> simp
theorem amS_en {T : Nat → Int32} {en i sp m : Nat} (hi : i < 10) (hm : m ≤ 6) (h0 : sp ≤ en) : (amS T en i sp m 0).2 ≤ en := by
  rcases amS_or (T := T) (en := en) (i := i) (sp := sp) m 0 with ⟨h, -⟩ | ⟨q, -, h1, h, h2, -⟩ <;> rw [h]
  · exact h0
  · have := hrT_lt (T := T) (en := en) (sp := sp) (by rw [h2]; exact sg_nm ⟨i, hi⟩ ⟨q, by omega⟩)
    show sp + 1 ≤ en
    omega
theorem q_among {g : xG} {nx : Nat} {sh : Nat → Nat × Nat} {P : Nat → Nat → Option Nat} {I : Nat → Nat → Int32} (hx : xFx sh P) {T : Nat → Int32} {i en sp op ac mm : Nat} {wr : Bool} (hi : i < 10) (hp : xPa I T en sp wr op ac mm) : xMet g Y_M_among 4 0 0 [.ref 127, .ref (8 + i)] (nx, sh, P, I) (fun r σ => ∃ I1 : Nat → Nat → Int32, r = some (.int (amS T en i sp (xTl.getD i 0) 0).1) ∧ σ = (nx, sh, P, I1) ∧ xPt I I1 ac mm [] ∧ xPa I1 T en (amS T en i sp (xTl.getD i 0) 0).2 wr op ac mm) := by
  have hq := hp.1
  have hse := hp.2.2.2.2.2.2.1
  have hen := hq.2.2.2.1
  refine (r_among hx hi hq (by omega)).po ?_
  rintro _ _ ⟨I1, rfl, rfl, hF, hD, hq1⟩
  rw [amS_e hp.2.2.2.2.2.2.2] at hq1
  exact ⟨I1, by rw [amS_e hp.2.2.2.2.2.2.2], rfl, hp.fd hF (fun b hb => hD b (fun z => hb (by grind))) hq1 amS_ge (amS_en hi (sl_le ⟨i, hi⟩) hse)⟩
theorem q_emits {g : xG} {nx : Nat} {sh : Nat → Nat × Nat} {P : Nat → Nat → Option Nat} {I : Nat → Nat → Int32} (hx : xFx sh P) {T : Nat → Int32} {en sp op ac mm : Nat} {wr : Bool} {x : Int32} (hp : xPa I T en sp wr op ac mm) (hm : wr = false → mm + 1 ≤ sp) : xMet g Y_M_emits 0 0 0 [.ref 127, .int x] (nx, sh, P, I) (fun r σ => ∃ I1 : Nat → Nat → Int32, r = none ∧ σ = (nx, sh, P, I1) ∧ xPt I I1 ac mm (emL wr x) ∧ xPa I1 T en sp wr op ac (mm + (emL wr x).length)) := by
  obtain ⟨hq, h8, h4, ha4, hmm, hms, hse, hT⟩ := id hp
  have hen := hq.2.2.2.1
  refine (r_emits (step := x) hx hq.2.2.1 h4 ha4 hmm (by omega)).po ?_
  rintro _ _ ⟨I1, rfl, rfl, hF, h1⟩
  have e7 : I1 127 = I 127 := hF 127 (by decide)
  have hW : xWr (I 128) (I1 128) ac mm (emL wr x) := by
    rw [h1]
    cases wr
    · rw [if_neg (by decide)]; exact xWr.em
    · rw [if_pos rfl]; exact xWr.rf hmm
  have hl : mm + (emL wr x).length ≤ sp := by
    cases wr
    · exact hm rfl
    · exact hms
  refine ⟨I1, rfl, rfl, ⟨hF.mono, fun b _ => by rw [e7], hW⟩, ?_⟩
  obtain ⟨q1, q2, q3, q4, q5⟩ := hq
  exact ⟨⟨by rw [e7]; exact q1, by rw [e7]; exact q2, by rw [e7]; exact q3, q4, q5⟩, by rw [e7]; exact h8, by rw [e7]; exact h4, ha4, hW.cn, hl, hse, by rw [hW.hr ha4 hen]; exact hT⟩
/-! what a part that is read is -/
def tuO (tu : List Bool) : Prop := tu = [] ∨ ∃ t, tu = false :: t
def xRF (T : Nat → Int32) (en sp op sp1 : Nat) (wr1 : Bool) (L : List Int32) : Prop :=
  (wr1 = true ∧ ∀ tu cd, tu.length = op → pR T en (0, sp, tu, cd) (2, sp1, [], [])) ∨ (wr1 = false ∧ ∃ tk v, (∀ tu cd, tu.length = op → pR T en (0, sp, tu, cd) (1, sp1, tu, cd ++ tk)) ∧ mF tk v ∧ mR L (3 * (6 - op)) v)
def xRE (T : Nat → Int32) (en sp op sp1 : Nat) (wr1 : Bool) (L : List Int32) : Prop :=
  (wr1 = true ∧ ∀ tu cd, tu.length = op → tuO tu → pR T en (0, sp, tu, cd) (2, sp1, [], [])) ∨ (wr1 = false ∧ ∃ tk v, (∀ tu cd, tu.length = op → tuO tu → pR T en (0, sp, tu, cd) (1, sp1, tu, cd ++ tk)) ∧ mE tk v ∧ mR L (3 * (6 - op) + 1) v)
def xRS (T : Nat → Int32) (en sp op sp1 : Nat) (wr1 : Bool) (L : List Int32) : Prop :=
  (wr1 = true ∧ ∀ tu cd, tu.length = op → tuO tu → pR T en (0, sp, tu, cd) (2, sp1, [], [])) ∨ (wr1 = false ∧ ∃ tk v, (∀ tu cd, tu.length = op → tuO tu → pR T en (0, sp, tu, cd) (1, sp1, tu, cd ++ tk)) ∧ mS tk v ∧ mR L (3 * (6 - op) + 2) v)
theorem xRF.e {T : Nat → Int32} {en sp op sp1 : Nat} {wr1 : Bool} {L : List Int32} (h : xRF T en sp op sp1 wr1 L) : xRE T en sp op sp1 wr1 L := by
  rcases h with ⟨h1, h2⟩ | ⟨h1, tk, v, h2, h3, h4⟩
  · exact Or.inl ⟨h1, fun tu cd hl _ => h2 tu cd hl⟩
  · exact Or.inr ⟨h1, tk, v, fun tu cd hl _ => h2 tu cd hl, h3.e, h4.mono (by omega)⟩
theorem xRE.s {T : Nat → Int32} {en sp op sp1 : Nat} {wr1 : Bool} {L : List Int32} (h : xRE T en sp op sp1 wr1 L) : xRS T en sp op sp1 wr1 L := by
  rcases h with ⟨h1, h2⟩ | ⟨h1, tk, v, h2, h3, h4⟩
  · exact Or.inl ⟨h1, h2⟩
  · exact Or.inr ⟨h1, tk, v, h2, h3.s, h4.mono (by omega)⟩
theorem pR_and {T : Nat → Int32} {en sp : Nat} {tu : List Bool} {cd : List Int32} (ht : tuO tu) (h : hrT T en sp = 38) : pR T en (1, sp, tu, cd) (0, sp + 1, tu, cd) := by
  refine pR.st ?_
  rcases ht with rfl | ⟨t, rfl⟩
  · rw [pS_n, h, if_neg (by decide), if_pos rfl]
  · rw [pS_f, h, if_neg (by decide), if_neg (by decide), if_pos rfl]
theorem pR_or {T : Nat → Int32} {en sp : Nat} {tu : List Bool} {cd : List Int32} (ht : tuO tu) (h : hrT T en sp = 124) : pR T en (1, sp, tu, cd) (0, sp + 1, tu, cd ++ [124]) := by
  refine pR.st ?_
  rcases ht with rfl | ⟨t, rfl⟩
  · rw [pS_n, h, if_pos rfl]
  · rw [pS_f, h, if_neg (by decide), if_pos rfl]
theorem xRE.st {T : Nat → Int32} {en sp op sp1 sp2 : Nat} {wr2 : Bool} {L L2 : List Int32} (h : xRE T en sp op sp1 false L) (hc : hrT T en sp1 = 38) (h2 : xRF T en (sp1 + 1) op sp2 wr2 L2) : xRE T en sp op sp2 wr2 (L ++ (L2 ++ emL wr2 (-2))) := by
  rcases h with ⟨h1, -⟩ | ⟨-, tk, v, h3, h4, h5⟩
  · cases h1
  rcases h2 with ⟨rfl, h6⟩ | ⟨rfl, tk2, v2, h6, h7, h8⟩
  · exact Or.inl ⟨rfl, fun tu cd hl ht => ((h3 tu cd hl ht).tr (pR_and ht hc)).tr (h6 tu _ hl)⟩
  · refine Or.inr ⟨rfl, tk ++ tk2, fun f => v f && v2 f, fun tu cd hl ht => ?_, h4.and h7, ?_⟩
    · rw [← List.append_assoc]
      exact ((h3 tu cd hl ht).tr (pR_and ht hc)).tr (h6 tu _ hl)
    · exact mR.bin (x := -2) (Or.inl rfl) h5 h8 (by omega)
theorem xRS.st {T : Nat → Int32} {en sp op sp1 sp2 : Nat} {wr2 : Bool} {L L2 : List Int32} (h : xRS T en sp op sp1 false L) (hc : hrT T en sp1 = 124) (h2 : xRE T en (sp1 + 1) op sp2 wr2 L2) : xRS T en sp op sp2 wr2 (L ++ (L2 ++ emL wr2 (-3))) := by
  rcases h with ⟨h1, -⟩ | ⟨-, tk, v, h3, h4, h5⟩
  · cases h1
  rcases h2 with ⟨rfl, h6⟩ | ⟨rfl, tk2, v2, h6, h7, h8⟩
  · exact Or.inl ⟨rfl, fun tu cd hl ht => ((h3 tu cd hl ht).tr (pR_or ht hc)).tr (h6 tu _ hl ht)⟩
  · refine Or.inr ⟨rfl, tk ++ 124 :: tk2, fun f => v f || v2 f, fun tu cd hl ht => ?_, h4.or h7, ?_⟩
    · have h9 := ((h3 tu cd hl ht).tr (pR_or ht hc)).tr (h6 tu _ hl ht)
      rw [List.append_assoc, List.append_assoc] at h9
      exact h9
    · exact mR.bin (x := -3) (Or.inr rfl) h5 h8 (by omega)
theorem xRF.deep {T : Nat → Int32} {en sp : Nat} (hc : hrT T en sp = 33 ∨ hrT T en sp = 40) : xRF T en sp 5 sp true [] := Or.inl ⟨rfl, fun tu cd hl => pR.st (by rw [pS_0, if_pos hc, if_pos (by omega)])⟩
theorem xRF.not {T : Nat → Int32} {en sp op sp1 : Nat} {wr1 : Bool} {L : List Int32} (ho : op < 5) (hc : hrT T en sp = 33) (h : xRF T en (sp + 1) (op + 1) sp1 wr1 L) : xRF T en sp op sp1 wr1 (L ++ emL wr1 (-1)) := by
  have h0 : ∀ tu cd, tu.length = op → pR T en (0, sp, tu, cd) (0, sp + 1, true :: tu, cd ++ [33]) := fun tu cd hl => pR.st (by rw [pS_0, if_pos (Or.inl hc), if_neg (by omega), hc]; rfl)
  rcases h with ⟨rfl, h2⟩ | ⟨rfl, tk, v, h2, h3, h4⟩
  · exact Or.inl ⟨rfl, fun tu cd hl => (h0 tu cd hl).tr (h2 _ _ (by rw [List.length_cons, hl]))⟩
  · refine Or.inr ⟨rfl, 33 :: tk, fun f => !v f, fun tu cd hl => ?_, h3.not, (h4.not).mono (by omega)⟩
    have h9 := ((h0 tu cd hl).tr (h2 _ (cd ++ [33]) (by rw [List.length_cons, hl]))).tr (pR.st pS_t)
    rw [List.append_assoc] at h9
    exact h9
theorem xRF.par {T : Nat → Int32} {en sp op sp1 : Nat} {wr1 : Bool} {L : List Int32} (ho : op < 5) (hc : hrT T en sp = 40) (h : xRS T en (sp + 1) (op + 1) sp1 wr1 L) (he : wr1 = false → ¬ hrT T en sp1 = 38 ∧ ¬ hrT T en sp1 = 124) : xRF T en sp op (muS T en sp1 wr1 41) (muW T en sp1 wr1 41) L := by
  have h0 : ∀ tu cd, tu.length = op → pR T en (0, sp, tu, cd) (0, sp + 1, false :: tu, cd ++ [40]) := fun tu cd hl => pR.st (by rw [pS_0, if_pos (Or.inr hc), if_neg (by omega), hc]; rfl)
  rcases h with ⟨rfl, h2⟩ | ⟨rfl, tk, v, h2, h3, h4⟩
  · refine Or.inl ⟨rfl, fun tu cd hl => ?_⟩
    rw [show muS T en sp1 true 41 = sp1 from rfl]
    exact (h0 tu cd hl).tr (h2 _ _ (by rw [List.length_cons, hl]) (Or.inr ⟨tu, rfl⟩))
  · obtain ⟨e1, e2⟩ := he rfl
    by_cases h41 : hrT T en sp1 = 41
    · have hw : muW T en sp1 false 41 = false := by unfold muW; rw [decide_eq_true h41]; rfl
      have hs : muS T en sp1 false 41 = sp1 + 1 := by unfold muS; rw [hw]; rfl
      rw [hw, hs]
      refine Or.inr ⟨rfl, 40 :: (tk ++ [41]), v, fun tu cd hl => ?_, h3.par, h4.mono (by omega)⟩
      have h9 := ((h0 tu cd hl).tr (h2 _ (cd ++ [40]) (by rw [List.length_cons, hl]) (Or.inr ⟨tu, rfl⟩))).tr (pR.st (r := (1, sp1 + 1, tu, cd ++ [40] ++ tk ++ [41])) (by rw [pS_f, if_pos h41]))
      rw [List.append_assoc, List.append_assoc] at h9
      exact h9
    · have hw : muW T en sp1 false 41 = true := by unfold muW; rw [decide_eq_false h41]; rfl
      have hs : muS T en sp1 false 41 = sp1 := by unfold muS; rw [hw]; rfl
      rw [hw, hs]
      refine Or.inl ⟨rfl, fun tu cd hl => ?_⟩
      exact ((h0 tu cd hl).tr (h2 _ (cd ++ [40]) (by rw [List.length_cons, hl]) (Or.inr ⟨tu, rfl⟩))).tr (pR.st (by rw [pS_f, if_neg h41, if_neg e2, if_neg e1]))
theorem xRF.ts {T : Nat → Int32} {en sp op : Nat} (hc : ¬ (hrT T en sp = 33 ∨ hrT T en sp = 40)) : xRF T en sp op (tsS T en sp) (tsW T en sp) (emL (tsW T en sp) (tsR T en sp)) := by
  cases hw : tsW T en sp
  · obtain ⟨a, b, v, ha, hb, hv, -, -, -, -, -, -, e1, e2⟩ := ts_ok hw
    refine Or.inr ⟨rfl, [tsT T en sp], fun f => lkT f (tsR T en sp), fun tu cd hl => pR.st (by rw [pS_0, if_neg hc, hw, if_neg (by decide)]), ?_, ?_⟩
    · rw [e1, e2]; exact mF.ts ha hb hv
    · rw [e2]; exact mR.ts ha hb hv
  · exact Or.inl ⟨rfl, fun tu cd hl => pR.st (by rw [pS_0, if_neg hc, hw, if_pos rfl])⟩
def xPq (nx : Nat) (sh : Nat → Nat × Nat) (P : Nat → Nat → Option Nat) (I : Nat → Nat → Int32) (T : Nat → Int32) (en sp op ac mm : Nat) (R : Nat → Bool → List Int32 → Prop) (r : Option Value) (σ : xS) : Prop := ∃ (I1 : Nat → Nat → Int32) (sp1 : Nat) (wr1 : Bool) (L : List Int32), r = none ∧ σ = (nx, sh, P, I1) ∧ xPt I I1 ac mm L ∧ xPa I1 T en sp1 wr1 op ac (mm + L.length) ∧ sp + L.length ≤ sp1 ∧ R sp1 wr1 L
def xFac (g : xG) (m : Nat) : Prop := ∀ (nx : Nat) (sh : Nat → Nat × Nat) (P : Nat → Nat → Option Nat) (I : Nat → Nat → Int32) (T : Nat → Int32) (en sp op ac mm : Nat), xFx sh P → xPa I T en sp false op ac mm → op + m = 5 → xMet g Y_M_factor (5 + 3 * m) 0 0 [.ref 127] (nx, sh, P, I) (xPq nx sh P I T en sp op ac mm (xRF T en sp op))
def xEve (g : xG) (m : Nat) : Prop := ∀ (nx : Nat) (sh : Nat → Nat × Nat) (P : Nat → Nat → Option Nat) (I : Nat → Nat → Int32) (T : Nat → Int32) (en sp op ac mm : Nat), xFx sh P → xPa I T en sp false op ac mm → op + m = 5 → xMet g Y_M_every (6 + 3 * m) 0 0 [.ref 127] (nx, sh, P, I) (xPq nx sh P I T en sp op ac mm (fun sp1 wr1 L => xRE T en sp op sp1 wr1 L ∧ (wr1 = false → ¬ hrT T en sp1 = 38)))
def xSom (g : xG) (m : Nat) : Prop := ∀ (nx : Nat) (sh : Nat → Nat × Nat) (P : Nat → Nat → Option Nat) (I : Nat → Nat → Int32) (T : Nat → Int32) (en sp op ac mm : Nat), xFx sh P → xPa I T en sp false op ac mm → op + m = 5 → xMet g Y_M_some (7 + 3 * m) 0 0 [.ref 127] (nx, sh, P, I) (xPq nx sh P I T en sp op ac mm (fun sp1 wr1 L => xRS T en sp op sp1 wr1 L ∧ (wr1 = false → ¬ hrT T en sp1 = 38 ∧ ¬ hrT T en sp1 = 124)))
