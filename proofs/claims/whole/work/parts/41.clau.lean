/-! clauses and lands of the class, the world -/
theorem hF_c {f : Nat → Int32} {x : Int32} {l : List Int32} {st : List HB} : hF f (x :: l) st = hF f l (hS f x st) := rfl
theorem lk_out2 {k : Int} {o1 o2 a1 a2 dflt : Int} (h1 : ¬ a1 = k) (h2 : ¬ a2 = k) : Op.lookupswitch.offset [(a1, o1), (a2, o2)] dflt k = dflt := by
  rw [Op.lookupswitch.offset_cons, if_neg h1, Op.lookupswitch.offset_cons, if_neg h2, Op.lookupswitch.offset_nil]
theorem drop_c {α : Type} {l : List α} {i : Nat} (h : i < l.length) : l.drop i = l[i] :: l.drop (i + 1) := List.drop_eq_getElem_cons h
theorem gD_at {l : List Int32} {i : Nat} (h : i < l.length) : l.getD i 0 = l[i] := by rw [List.getD_eq_getElem?_getD, List.getElem?_eq_getElem h]; rfl
/-- a Clause at cl, its code at co -/
def xCla (nx : Nat) (sh : Nat → Nat × Nat) (P : Nat → Nat → Option Nat) (I : Nat → Nat → Int32) (cl co : Nat) (d : CL) : Prop := (144 ≤ cl ∧ cl < nx ∧ 144 ≤ co ∧ co < nx) ∧ (sh cl).1 = 2 ∧ I cl 0 = nI d.1 ∧ I cl 1 = d.2.1 ∧ P cl 2 = some co ∧ sh co = (12, d.2.2.length) ∧ d.2.2.length ≤ 100 ∧ (∀ j, j < d.2.2.length → I co j = d.2.2.getD j 0) ∧ d.1 < 4 ∧ (2 ≤ d.1 → tkE 1 d.2.2 = some 1)
/-- a Land at la, its clauses cs -/
def xLnd (nx : Nat) (sh : Nat → Nat × Nat) (P : Nat → Nat → Option Nat) (I : Nat → Nat → Int32) (la ar : Nat) (cs : List CL) : Prop := (144 ≤ la ∧ la < nx ∧ 144 ≤ ar ∧ ar < nx) ∧ (sh la).1 = 4 ∧ P la 0 = some ar ∧ sh ar = (14, 10) ∧ I la 1 = nI cs.length ∧ cs.length ≤ 10 ∧ ∀ i, i < 10 → (∀ d, cs[i]? = some d → ∃ cl co, P ar i = some cl ∧ xCla nx sh P I cl co d) ∧ (cs[i]? = none → P ar i = none)
def lstC (w : Nat) : Int32 → List CL → Int32
  | v, [] => v
  | v, c :: r => lstC w (if c.1 = w then c.2.1 else v) r
def dclC (f : Nat → Int32) (sum : Int32) (c : CL) : Int32 := if c.1 < 2 then sum else if hC f c.2.2 = true then (if c.1 = 2 then sum + c.2.1 else sum + -c.2.1) else sum
def dlC (f : Nat → Int32) : Int32 → List CL → Int32
  | s, [] => s
  | s, c :: r => dlC f (dclC f s c) r
theorem dlC_e {f : Nat → Int32} (hf : fB f) : ∀ {cs : List CL} {cv : List CV} {s : Int32}, csOf cs cv → dlC f s cs = dl f s cv
  | [], [], _, _ => rfl
  | c :: cs, d :: cv, s, h => by
    obtain ⟨⟨h1, h2, h3, -, h5⟩, hr⟩ := h
    show dlC f (dclC f s c) cs = dl f (dcl f s d) cv
    have e : dclC f s c = dcl f s d := by
      unfold dclC dcl
      rw [h2, h3]
      by_cases hk : c.1 < 2
      · rw [if_pos hk, if_pos hk]
      · rw [if_neg hk, if_neg hk, (h5 (by omega)).c hf]
    rw [e]
    exact dlC_e hf hr
  | [], _ :: _, _, h => absurd h id
  | _ :: _, [], _, h => absurd h id
theorem lstC_e {w : Nat} : ∀ {cs : List CL} {cv : List CV} {v : Int32}, csOf cs cv → lstC w v cs = lst w v cv
  | [], [], _, _ => rfl
  | c :: cs, d :: cv, v, h => by
    obtain ⟨⟨h1, h2, h3, -, -⟩, hr⟩ := h
    show lstC w (if c.1 = w then c.2.1 else v) cs = lst w (if d.1 = w then d.2.1 else v) cv
    rw [h2, h3]
    exact lstC_e hr
  | [], _ :: _, _, h => absurd h id
  | _ :: _, [], _, h => absurd h id
/-- the last of a word, or none: not to be told apart from -5 -/
theorem lst_5 {w : Nat} : ∀ (cs : List CL) (cv : List CV) (v : Int32), csOf cs cv → (lst w (-5) cv = -5 ∧ lst w v cv = v) ∨ (¬ lst w (-5) cv = -5 ∧ lst w v cv = lst w (-5) cv)
  | [], [], _, _ => Or.inl ⟨rfl, rfl⟩
  | c :: cs, d :: cv, v, h => by
    obtain ⟨⟨h1, h2, h3, ⟨n, hn, h4⟩, -⟩, hr⟩ := h
    show (lst w (if d.1 = w then d.2.1 else -5) cv = -5 ∧ lst w (if d.1 = w then d.2.1 else v) cv = v) ∨ (¬ lst w (if d.1 = w then d.2.1 else -5) cv = -5 ∧ _)
    by_cases hd : d.1 = w
    · right
      show _ ∧ lst w (if d.1 = w then d.2.1 else v) cv = lst w (if d.1 = w then d.2.1 else -5) cv
      rw [if_pos hd, if_pos hd]
      refine ⟨?_, rfl⟩
      obtain ⟨t, ht, e⟩ := lst_bd (w := w) cs cv n hr hn
      rw [h3, h4, e]
      exact nI_m5 (by omega)
    · rw [if_neg hd, if_neg hd]
      rcases lst_5 cs cv v hr with z | z
      · exact Or.inl z
      · refine Or.inr ⟨z.1, ?_⟩
        show lst w (if d.1 = w then d.2.1 else v) cv = lst w (if d.1 = w then d.2.1 else -5) cv
        rw [if_neg hd, if_neg hd]; exact z.2
  | [], _ :: _, _, h => absurd h id
  | _ :: _, [], _, h => absurd h id
/-- the land of the world w -/
def xLd (nx : Nat) (sh : Nat → Nat × Nat) (P : Nat → Nat → Option Nat) (I : Nat → Nat → Int32) (w : Nat) (s : Nat → Int32) : Prop := (s 8 = -1 ∧ P w 8 = none) ∨ (¬ s 8 = -1 ∧ ∃ la ar cs cv, P w 8 = some la ∧ xLnd nx sh P I la ar cs ∧ csOf cs cv ∧ tlO s 217 9 = lst 0 9 cv ∧ tlO s 222 0 = lst 1 0 cv ∧ ∀ f, LK s f = dl f 0 cv)
def xTN (sh : Nat → Nat × Nat) (P : Nat → Nat → Option Nat) (I : Nat → Nat → Int32) (s : Nat → Int32) : Prop := xTb sh P I 66 67 1 100 (cN s 7) ∧ xTb sh P I 68 69 8 4 (cN s 0) ∧ xTb sh P I 70 71 1 5 (cN s 1) ∧ xTb sh P I 72 73 5 6 (cN s 3) ∧ xTb sh P I 74 75 3 6 (cN s 4) ∧ xTb sh P I 76 77 1 6 (cN s 5) ∧ xTb sh P I 78 79 2 8 (cN s 6)
def xCN (I : Nat → Nat → Int32) (s : Nat → Int32) : Prop := (∀ i, i < cN s 7 → I 67 (i * 1 + 0) = s (117 + i)) ∧ (∀ c, c < cN s 0 → I 69 (c * 8 + 0) = s (10 + c) ∧ I 69 (c * 8 + 1) = s (14 + c) ∧ I 69 (c * 8 + 2) = s (18 + c) ∧ I 69 (c * 8 + 3) = s (22 + c) ∧ ∀ k, k < 4 → I 69 (c * 8 + (4 + k)) = s (26 + 4 * c + k)) ∧ (∀ i, i < cN s 1 → I 71 (i * 1 + 0) = s (42 + i)) ∧ (∀ i, i < cN s 3 → I 73 (i * 5 + 0) = s (47 + i) ∧ ∀ k, k < 4 → I 73 (i * 5 + (1 + k)) = s (53 + 4 * i + k)) ∧ (∀ i, i < cN s 4 → I 75 (i * 3 + 0) = s (77 + i) ∧ I 75 (i * 3 + 1) = s (83 + i) ∧ I 75 (i * 3 + 2) = s (89 + i)) ∧ (∀ i, i < cN s 5 → I 77 (i * 1 + 0) = s (95 + i)) ∧ (∀ i, i < cN s 6 → I 79 (i * 2 + 0) = s (101 + i) ∧ I 79 (i * 2 + 1) = s (109 + i))
/-- the world at 65 holds what the row s tells -/
def xWN (nx : Nat) (sh : Nat → Nat × Nat) (P : Nat → Nat → Option Nat) (I : Nat → Nat → Int32) (s : Nat → Int32) : Prop := xTN sh P I s ∧ xCN I s ∧ I 65 7 = s 2 ∧ I 65 9 = s 9 ∧ xLd nx sh P I 65 s
def xTK (sh : Nat → Nat × Nat) (P : Nat → Nat → Option Nat) (I : Nat → Nat → Int32) (s : Nat → Int32) : Prop := xTb sh P I 82 83 1 100 (cN s 7) ∧ xTb sh P I 84 85 8 4 (cN s 0) ∧ xTb sh P I 86 87 1 5 (cN s 1) ∧ xTb sh P I 88 89 5 6 (cN s 3) ∧ xTb sh P I 90 91 3 6 (cN s 4) ∧ xTb sh P I 92 93 1 6 (cN s 5) ∧ xTb sh P I 94 95 2 8 (cN s 6)
def xCK (I : Nat → Nat → Int32) (s : Nat → Int32) : Prop := (∀ i, i < cN s 7 → I 83 (i * 1 + 0) = s (117 + i)) ∧ (∀ c, c < cN s 0 → I 85 (c * 8 + 0) = s (10 + c) ∧ I 85 (c * 8 + 1) = s (14 + c) ∧ I 85 (c * 8 + 2) = s (18 + c) ∧ I 85 (c * 8 + 3) = s (22 + c) ∧ ∀ k, k < 4 → I 85 (c * 8 + (4 + k)) = s (26 + 4 * c + k)) ∧ (∀ i, i < cN s 1 → I 87 (i * 1 + 0) = s (42 + i)) ∧ (∀ i, i < cN s 3 → I 89 (i * 5 + 0) = s (47 + i) ∧ ∀ k, k < 4 → I 89 (i * 5 + (1 + k)) = s (53 + 4 * i + k)) ∧ (∀ i, i < cN s 4 → I 91 (i * 3 + 0) = s (77 + i) ∧ I 91 (i * 3 + 1) = s (83 + i) ∧ I 91 (i * 3 + 2) = s (89 + i)) ∧ (∀ i, i < cN s 5 → I 93 (i * 1 + 0) = s (95 + i)) ∧ (∀ i, i < cN s 6 → I 95 (i * 2 + 0) = s (101 + i) ∧ I 95 (i * 2 + 1) = s (109 + i))
/-- the world at 81 holds what the row s tells -/
def xWK (nx : Nat) (sh : Nat → Nat × Nat) (P : Nat → Nat → Option Nat) (I : Nat → Nat → Int32) (s : Nat → Int32) : Prop := xTK sh P I s ∧ xCK I s ∧ I 81 7 = s 2 ∧ I 81 9 = s 9 ∧ xLd nx sh P I 81 s

set_option maxHeartbeats 4000000 in
set_option maxRecDepth 100000 in
theorem m_Clause_isSo {g : xG} {nx : Nat} {sh : Nat → Nat × Nat} {P : Nat → Nat → Option Nat} {I : Nat → Nat → Int32} {fa : Nat} {x : Int32} (hfa : sh fa = (12, 6)) : xMet g Y_Clause_isSo 0 0 0 [.int x, .ref fa] (nx, sh, P, I) (fun r σ => r = some (.int (if isoS (I fa) x = true then 1 else 0)) ∧ σ = (nx, sh, P, I)) := by
  refine xMet.of [some (.int x), some (.ref fa), none, none, none] (by decide +kernel) (Nat.le_of_ble_eq_true rfl) rfl ?_
  refine x_iload_n dX2_isSo_0 rfl ?_
  refine x_sipush (v := 128) dX2_isSo_1 (by decide) ?_
  refine x_isub dX2_isSo_4 ?_
  refine x_istore_n dX2_isSo_5 (Nat.le_of_ble_eq_true rfl) ?_
  try simp only [xst, xst2, xclr, xset, xwide]
  refine x_iload_n dX2_isSo_6 rfl ?_
  refine x_sipush (v := 300) dX2_isSo_7 (by decide) ?_
  refine x_idiv dX2_isSo_10 (by decide) ?_
  refine x_istore_n dX2_isSo_11 (Nat.le_of_ble_eq_true rfl) ?_
  try simp only [xst, xst2, xclr, xset, xwide]
  refine x_iload_n dX2_isSo_12 rfl ?_
  refine x_if_lt (tgt := 22) dX2_isSo_13 rfl (fun c13 => ?_) (fun c13 => ?_)
  · have hye : x - 128 < 0 ∨ 6 ≤ (x - 128) / 300 := Or.inl c13
    refine x_iconst (v := 0) dX2_isSo_22 (by decide) ?_
    refine x_ireturn dX2_isSo_23 rfl rfl ?_
    exact ⟨by unfold isoS; rw [if_pos hye]; rfl, rfl⟩
  · skip
    refine x_iload_n dX2_isSo_16 rfl ?_
    refine x_aload_n dX2_isSo_17 rfl ?_
    refine y_alen dX2_isSo_18 hfa (by decide) ?_
    refine x_icmp_lt (tgt := 24) dX2_isSo_19 rfl (fun c19 => ?_) (fun c19 => ?_)
    · have hno : ¬ (x - 128 < 0 ∨ 6 ≤ (x - 128) / 300) := fun z => z.elim c13 (fun y => absurd c19 (Int32.not_lt.mpr y))
      obtain ⟨z, hz, ez⟩ := nI_of c13
      have eq9 : (x - 128) / 300 = nI (z / 300) := by rw [ez]; exact pk_div hz (by decide) (by decide)
      have hlt9 : z / 300 < 6 := by rw [eq9] at c19; exact (nI_ltI (by omega) (by decide)).mp c19
      refine x_aload_n dX2_isSo_24 rfl ?_
      refine x_iload_n dX2_isSo_25 rfl ?_
      refine y_iaload dX2_isSo_26 hfa (vi eq9 hlt9 (by decide)) rfl ?_
      refine x_iload_n dX2_isSo_27 rfl ?_
      refine x_bipush (v := 100) dX2_isSo_28 (by decide) ?_
      refine x_irem dX2_isSo_30 (by decide) ?_
      refine x_isub dX2_isSo_31 ?_
      refine x_istore dX2_isSo_32 (Nat.le_of_ble_eq_true rfl) ?_
      try simp only [xst, xst2, xclr, xset, xwide]
      refine x_iload_n dX2_isSo_34 rfl ?_
      refine x_bipush (v := 100) dX2_isSo_35 (by decide) ?_
      refine x_idiv dX2_isSo_37 (by decide) ?_
      refine x_iconst (v := 3) dX2_isSo_38 (by decide) ?_
      refine x_irem dX2_isSo_39 (by decide) ?_
      obtain ⟨q, hq⟩ : ∃ q, (x - 128) / 100 - (x - 128) / 100 / 3 * 3 = q := ⟨_, rfl⟩
      rw [hq]
      rcases (show q = 0 ∨ q = 1 ∨ (¬ q = 0 ∧ ¬ q = 1) by grind) with rfl | rfl | ⟨n1, n2⟩
      · have he : isoS (I fa) x = decide (I fa ((x - 128) / 300).toNatClampNeg - ((x - 128) - (x - 128) / 100 * 100) < 0) := by unfold isoS; rw [if_neg hno, hq, if_pos rfl]
        refine x_lookup (off := 28) (tgt := 68) dX2_isSo_40 (by decide) (by decide) rfl ?_
        refine x_iload dX2_isSo_68 rfl ?_
        refine x_if_ge (tgt := 77) dX2_isSo_70 rfl (fun c70 => ?_) (fun c70 => ?_)
        · refine x_iconst (v := 0) dX2_isSo_77 (by decide) ?_
          refine x_ireturn dX2_isSo_78 rfl rfl ?_
          first | exact ⟨by rw [he, decide_eq_true (Int32.not_le.mp c70)]; rfl, rfl⟩ | exact ⟨by rw [he, decide_eq_false (Int32.not_lt.mpr c70)]; rfl, rfl⟩
        · refine x_iconst (v := 1) dX2_isSo_73 (by decide) ?_
          refine x_goto (tgt := 78) dX2_isSo_74 rfl ?_
          refine x_ireturn dX2_isSo_78 rfl rfl ?_
          first | exact ⟨by rw [he, decide_eq_true (Int32.not_le.mp c70)]; rfl, rfl⟩ | exact ⟨by rw [he, decide_eq_false (Int32.not_lt.mpr c70)]; rfl, rfl⟩
      · have he : isoS (I fa) x = decide (I fa ((x - 128) / 300).toNatClampNeg - ((x - 128) - (x - 128) / 100 * 100) = 0) := by unfold isoS; rw [if_neg hno, hq, if_neg (by decide), if_pos rfl]
        refine x_lookup (off := 39) (tgt := 79) dX2_isSo_40 (by decide) (by decide) rfl ?_
        refine x_iload dX2_isSo_79 rfl ?_
        refine x_if_ne (tgt := 88) dX2_isSo_81 rfl (fun c81 => ?_) (fun c81 => ?_)
        · refine x_iconst (v := 0) dX2_isSo_88 (by decide) ?_
          refine x_ireturn dX2_isSo_89 rfl rfl ?_
          first | exact ⟨by rw [he, decide_eq_true c81]; rfl, rfl⟩ | exact ⟨by rw [he, decide_eq_false c81]; rfl, rfl⟩
        · refine x_iconst (v := 1) dX2_isSo_84 (by decide) ?_
          refine x_goto (tgt := 89) dX2_isSo_85 rfl ?_
          refine x_ireturn dX2_isSo_89 rfl rfl ?_
          first | exact ⟨by rw [he, decide_eq_true c81]; rfl, rfl⟩ | exact ⟨by rw [he, decide_eq_false c81]; rfl, rfl⟩
      · have he : isoS (I fa) x = decide (0 < I fa ((x - 128) / 300).toNatClampNeg - ((x - 128) - (x - 128) / 100 * 100)) := by unfold isoS; rw [if_neg hno, hq, if_neg n1, if_neg n2]
        refine x_lookup (off := 50) (tgt := 90) dX2_isSo_40 (by decide) (lk_out2 (fun z => n1 (Int32.toInt_inj.mp z.symm)) (fun z => n2 (Int32.toInt_inj.mp z.symm))) rfl ?_
        refine x_iload dX2_isSo_90 rfl ?_
        refine x_if_le (tgt := 99) dX2_isSo_92 rfl (fun c92 => ?_) (fun c92 => ?_)
        · refine x_iconst (v := 0) dX2_isSo_99 (by decide) ?_
          refine x_ireturn dX2_isSo_100 rfl rfl ?_
          first | exact ⟨by rw [he, decide_eq_true (Int32.not_le.mp c92)]; rfl, rfl⟩ | exact ⟨by rw [he, decide_eq_false (Int32.not_lt.mpr c92)]; rfl, rfl⟩
        · refine x_iconst (v := 1) dX2_isSo_95 (by decide) ?_
          refine x_goto (tgt := 100) dX2_isSo_96 rfl ?_
          refine x_ireturn dX2_isSo_100 rfl rfl ?_
          first | exact ⟨by rw [he, decide_eq_true (Int32.not_le.mp c92)]; rfl, rfl⟩ | exact ⟨by rw [he, decide_eq_false (Int32.not_lt.mpr c92)]; rfl, rfl⟩
    · have hye : x - 128 < 0 ∨ 6 ≤ (x - 128) / 300 := Or.inr (Int32.not_lt.mp c19)
      refine x_iconst (v := 0) dX2_isSo_22 (by decide) ?_
      refine x_ireturn dX2_isSo_23 rfl rfl ?_
      exact ⟨by unfold isoS; rw [if_pos hye]; rfl, rfl⟩

set_option maxHeartbeats 4000000 in
set_option maxRecDepth 100000 in
theorem m_Clause_holds {g : xG} {nx : Nat} {sh : Nat → Nat × Nat} {P : Nat → Nat → Option Nat} {I : Nat → Nat → Int32} {fa cl co : Nat} {d : CL} {tk : List Int32} (htk : tk = d.2.2) (hfa : sh fa = (12, 6)) (hc : xCla nx sh P I cl co d) (h2 : 2 ≤ d.1) : xMet g Y_Clause_holds 1 0 0 [.ref cl, .ref fa] (nx, sh, P, I) (fun r σ => r = some (.int (if hC (I fa) tk = true then 1 else 0)) ∧ σ = (nx, sh, P, I)) := by
  refine xMet.of [some (.ref cl), some (.ref fa), none, none, none, none, none, none, none, none] (by decide +kernel) (Nat.le_of_ble_eq_true rfl) rfl ?_
  obtain ⟨-, hcl, -, -, hpc, hco, hlen, hk, -, hE0⟩ := hc
  have hE0 := hE0 h2
  rw [← htk] at hco hlen hk hE0
  refine x_iconst (v := 0) dX2_holds_0 (by decide) ?_
  refine x_istore_n dX2_holds_1 (Nat.le_of_ble_eq_true rfl) ?_
  try simp only [xst, xst2, xclr, xset, xwide]
  refine x_iconst (v := 1) dX2_holds_2 (by decide) ?_
  refine x_istore_n dX2_holds_3 (Nat.le_of_ble_eq_true rfl) ?_
  try simp only [xst, xst2, xclr, xset, xwide]
  refine x_iconst (v := 0) dX2_holds_4 (by decide) ?_
  refine x_istore dX2_holds_5 (Nat.le_of_ble_eq_true rfl) ?_
  try simp only [xst, xst2, xclr, xset, xwide]
  refine x_aload_n dX2_holds_7 rfl ?_
  refine y_getr dX2_holds_8 F_Clause_18 hcl rfl hpc ?_
  refine x_astore dX2_holds_11 (Nat.le_of_ble_eq_true rfl) ?_
  try simp only [xst, xst2, xclr, xset, xwide]
  refine x_aload dX2_holds_13 rfl ?_
  refine y_alen dX2_holds_15 hco (by decide) ?_
  refine x_istore dX2_holds_16 (Nat.le_of_ble_eq_true rfl) ?_
  try simp only [xst, xst2, xclr, xset, xwide]
  refine x_iconst (v := 0) dX2_holds_18 (by decide) ?_
  refine x_istore dX2_holds_19 (Nat.le_of_ble_eq_true rfl) ?_
  try simp only [xst, xst2, xclr, xset, xwide]
  have K21 : ∀ (fuel : Nat) (i : Nat) (stk : List HB) (s a t : Int32) (v8 v9 : Option Value) (hi : i ≤ tk.length) (h1 : 1 ≤ stk.length) (h7 : stk.length ≤ 7) (hb : xBt stk s a t) (hE : tkE stk.length (tk.drop i) = some 1) (hv : hF (I fa) (tk.drop i) stk = hF (I fa) tk [(false, true, false)]), tk.length - i < fuel → xX g Y_Clause_holds 1 0 0 (fun r σ => r = some (.int (if hC (I fa) tk = true then 1 else 0)) ∧ σ = (nx, sh, P, I)) 21 [some (.ref cl), some (.ref fa), some (.int s), some (.int a), some (.int t), some (.ref co), some (.int (nI tk.length)), some (.int (nI i)), v8, v9] [] (nx, sh, P, I) := by
    intro fuel
    induction fuel with
    | zero => intro i stk s a t v8 v9 hi h1 h7 hb hE hv hm; exact absurd hm (Nat.not_lt_zero _)
    | succ fuel ih21 =>
      intro i stk s a t v8 v9 hi h1 h7 hb hE hv hm
      refine x_iload dX2_holds_21 rfl ?_
      refine x_iload dX2_holds_23 rfl ?_
      refine x_icmp_ge (tgt := 167) dX2_holds_25 rfl (fun c25 => ?_) (fun c25 => ?_)
      · have hie : i = tk.length := cge_t (by omega) hi c25
        rw [hie, List.drop_length] at hE hv
        have hE : some stk.length = some 1 := hE
        have hv : stk = hF (I fa) tk [(false, true, false)] := hv
        obtain ⟨⟨ys, ya, yt⟩, r, rfl⟩ : ∃ y r, stk = y :: r := by
          match stk, h1 with
          | y :: r, _ => exact ⟨y, r, rfl⟩
        have hr6 : r.length ≤ 6 := by rw [List.length_cons] at h7; omega
        have hCe : hC (I fa) tk = (ys || ya) := by unfold hC; rw [← hv]
        refine x_iload_n dX2_holds_167 rfl ?_
        refine x_iload_n dX2_holds_168 rfl ?_
        refine x_ior dX2_holds_169 ?_
        refine x_iconst (v := 1) dX2_holds_170 (by decide) ?_
        refine x_iand dX2_holds_171 ?_
        rw [hb.hd hr6, ← hCe]
        refine x_iconst (v := 1) dX2_holds_172 (by decide) ?_
        refine x_icmp_ne (tgt := 180) dX2_holds_173 rfl (fun c173 => ?_) (fun c173 => ?_)
        · refine x_iconst (v := 0) dX2_holds_180 (by decide) ?_
          refine x_ireturn dX2_holds_181 rfl rfl ?_
          cases hz : hC (I fa) tk
          · rw [hz] at c173; first | exact ⟨rfl, rfl⟩ | exact absurd c173 (by decide) | exact absurd (by decide) c173
          · rw [hz] at c173; first | exact ⟨rfl, rfl⟩ | exact absurd c173 (by decide) | exact absurd (by decide) c173
        · refine x_iconst (v := 1) dX2_holds_176 (by decide) ?_
          refine x_goto (tgt := 181) dX2_holds_177 rfl ?_
          refine x_ireturn dX2_holds_181 rfl rfl ?_
          cases hz : hC (I fa) tk
          · rw [hz] at c173; first | exact ⟨rfl, rfl⟩ | exact absurd c173 (by decide) | exact absurd (by decide) c173
          · rw [hz] at c173; first | exact ⟨rfl, rfl⟩ | exact absurd c173 (by decide) | exact absurd (by decide) c173
      · have him : i < tk.length := cge_f (by omega) hi c25
        obtain ⟨x, hxe, hdr⟩ : ∃ x, tk.getD i 0 = x ∧ tk.drop i = x :: tk.drop (i + 1) := ⟨tk[i], gD_at him, drop_c him⟩
        rw [hdr] at hE hv
        rw [tkE_c] at hE
        rw [hF_c] at hv
        obtain ⟨⟨ys, ya, yt⟩, r, rfl⟩ : ∃ y r, stk = y :: r := by
          match stk, h1 with
          | y :: r, _ => exact ⟨y, r, rfl⟩
        have hr6 : r.length ≤ 6 := by rw [List.length_cons] at h7; omega
        rw [hS_c] at hv
        refine x_aload dX2_holds_28 rfl ?_
        refine x_iload dX2_holds_30 rfl ?_
        refine y_iaload dX2_holds_32 hco (vi rfl him (by omega)) (rI (j := i) (ci rfl (by omega)) ((hk i him).trans hxe)) ?_
        refine x_istore dX2_holds_33 (Nat.le_of_ble_eq_true rfl) ?_
        try simp only [xst, xst2, xclr, xset, xwide]
        refine x_iload dX2_holds_35 rfl ?_
        refine x_bipush (v := 40) dX2_holds_37 (by decide) ?_
        refine x_icmp_ne (tgt := 61) dX2_holds_39 rfl (fun c39 => ?_) (fun c39 => ?_)
        · rw [if_neg c39] at hE hv
          refine x_iload dX2_holds_61 rfl ?_
          refine x_bipush (v := 33) dX2_holds_63 (by decide) ?_
          refine x_icmp_ne (tgt := 77) dX2_holds_65 rfl (fun c65 => ?_) (fun c65 => ?_)
          · rw [if_neg c65] at hv
            refine x_iload dX2_holds_77 rfl ?_
            refine x_bipush (v := 124) dX2_holds_79 (by decide) ?_
            refine x_icmp_ne (tgt := 97) dX2_holds_81 rfl (fun c81 => ?_) (fun c81 => ?_)
            · rw [if_neg c81] at hv
              have J111 : ∀ (v : Int32) (hvb : v = nI (b1 (isoS (I fa) x))), xX g Y_Clause_holds 1 0 0 (fun r σ => r = some (.int (if hC (I fa) tk = true then 1 else 0)) ∧ σ = (nx, sh, P, I)) 111 [some (.ref cl), some (.ref fa), some (.int s), some (.int a), some (.int t), some (.ref co), some (.int (nI tk.length)), some (.int (nI i)), some (.int x), v9] [.int v] (nx, sh, P, I) := by
                intro v hvb
                subst hvb
                skip
                refine x_istore dX2_holds_111 (Nat.le_of_ble_eq_true rfl) ?_
                try simp only [xst, xst2, xclr, xset, xwide]
                refine x_iload dX2_holds_113 rfl ?_
                refine x_bipush (v := 41) dX2_holds_115 (by decide) ?_
                refine x_icmp_ne (tgt := 141) dX2_holds_117 rfl (fun c117 => ?_) (fun c117 => ?_)
                · rw [if_neg c117] at hE hv
                  refine x_iload_n dX2_holds_141 rfl ?_
                  refine x_bipush (v := (-2)) dX2_holds_142 (by decide) ?_
                  refine x_iload dX2_holds_144 rfl ?_
                  refine x_iload dX2_holds_146 rfl ?_
                  refine x_iconst (v := 1) dX2_holds_148 (by decide) ?_
                  refine x_iand dX2_holds_149 ?_
                  refine x_ixor dX2_holds_150 ?_
                  refine x_ior dX2_holds_151 ?_
                  refine x_iand dX2_holds_152 ?_
                  refine x_istore_n dX2_holds_153 (Nat.le_of_ble_eq_true rfl) ?_
                  try simp only [xst, xst2, xclr, xset, xwide]
                  refine x_iload dX2_holds_154 rfl ?_
                  refine x_bipush (v := (-2)) dX2_holds_156 (by decide) ?_
                  refine x_iand dX2_holds_158 ?_
                  refine x_istore dX2_holds_159 (Nat.le_of_ble_eq_true rfl) ?_
                  try simp only [xst, xst2, xclr, xset, xwide]
                  refine x_iinc (v := (nI (i + 1))) dX2_holds_161 rfl (nI_1 _) (Nat.le_of_ble_eq_true rfl) ?_
                  try simp only [xst, xst2, xclr, xset, xwide]
                  refine x_goto (tgt := 21) dX2_holds_164 rfl ?_
                  exact ih21 (i + 1) ((ys, ya && xor (isoS (I fa) x) yt, false) :: r) _ _ _ _ _ (by omega) h1 h7 (hb.val hr6 (isoS (I fa) x)) hE hv (by omega)
                · rw [if_pos c117] at hE hv
                  have hd2 : 2 ≤ ((ys, ya, yt) :: r).length := by
                    by_cases z : 2 ≤ ((ys, ya, yt) :: r).length
                    · exact z
                    · rw [if_neg z] at hE; cases hE
                  rw [if_pos hd2] at hE
                  obtain ⟨⟨zs, za, zt⟩, r2, rfl⟩ : ∃ y r2, r = y :: r2 := by
                    match r, hd2 with
                    | y :: r2, _ => exact ⟨y, r2, rfl⟩
                  have hE : tkE ((zs, za, zt) :: r2).length (tk.drop (i + 1)) = some 1 := hE
                  have hl5 : r2.length + 1 ≤ 6 := hr6
                  skip
                  refine x_iload_n dX2_holds_120 rfl ?_
                  refine x_iload_n dX2_holds_121 rfl ?_
                  refine x_ior dX2_holds_122 ?_
                  refine x_iconst (v := 1) dX2_holds_123 (by decide) ?_
                  refine x_iand dX2_holds_124 ?_
                  rw [hb.hd hr6]
                  refine x_istore dX2_holds_125 (Nat.le_of_ble_eq_true rfl) ?_
                  try simp only [xst, xst2, xclr, xset, xwide]
                  refine x_iload_n dX2_holds_127 rfl ?_
                  refine x_iconst (v := 1) dX2_holds_128 (by decide) ?_
                  refine x_ishr dX2_holds_129 ?_
                  refine x_istore_n dX2_holds_130 (Nat.le_of_ble_eq_true rfl) ?_
                  try simp only [xst, xst2, xclr, xset, xwide]
                  refine x_iload_n dX2_holds_131 rfl ?_
                  refine x_iconst (v := 1) dX2_holds_132 (by decide) ?_
                  refine x_ishr dX2_holds_133 ?_
                  refine x_istore_n dX2_holds_134 (Nat.le_of_ble_eq_true rfl) ?_
                  try simp only [xst, xst2, xclr, xset, xwide]
                  refine x_iload dX2_holds_135 rfl ?_
                  refine x_iconst (v := 1) dX2_holds_137 (by decide) ?_
                  refine x_ishr dX2_holds_138 ?_
                  refine x_istore dX2_holds_139 (Nat.le_of_ble_eq_true rfl) ?_
                  try simp only [xst, xst2, xclr, xset, xwide]
                  refine x_iload_n dX2_holds_141 rfl ?_
                  refine x_bipush (v := (-2)) dX2_holds_142 (by decide) ?_
                  refine x_iload dX2_holds_144 rfl ?_
                  refine x_iload dX2_holds_146 rfl ?_
                  refine x_iconst (v := 1) dX2_holds_148 (by decide) ?_
                  refine x_iand dX2_holds_149 ?_
                  refine x_ixor dX2_holds_150 ?_
                  refine x_ior dX2_holds_151 ?_
                  refine x_iand dX2_holds_152 ?_
                  refine x_istore_n dX2_holds_153 (Nat.le_of_ble_eq_true rfl) ?_
                  try simp only [xst, xst2, xclr, xset, xwide]
                  refine x_iload dX2_holds_154 rfl ?_
                  refine x_bipush (v := (-2)) dX2_holds_156 (by decide) ?_
                  refine x_iand dX2_holds_158 ?_
                  refine x_istore dX2_holds_159 (Nat.le_of_ble_eq_true rfl) ?_
                  try simp only [xst, xst2, xclr, xset, xwide]
                  refine x_iinc (v := (nI (i + 1))) dX2_holds_161 rfl (nI_1 _) (Nat.le_of_ble_eq_true rfl) ?_
                  try simp only [xst, xst2, xclr, xset, xwide]
                  refine x_goto (tgt := 21) dX2_holds_164 rfl ?_
                  exact ih21 (i + 1) ((zs, za && xor (ys || ya) zt, false) :: r2) _ _ _ _ _ (by omega) (by rw [List.length_cons]; omega) (by rw [List.length_cons]; omega) ((hb.tl hr6).val (by omega) (ys || ya)) hE hv (by omega)
              refine x_iload dX2_holds_97 rfl ?_
              refine x_aload_n dX2_holds_99 rfl ?_
              refine x_callS (k2 := 0) (n2 := 0) dX2_holds_100 LS_Clause_22 (m_Clause_isSo hfa) rfl rfl (Nat.le_of_ble_eq_true rfl) (Nat.le_of_ble_eq_true rfl) (Nat.le_of_ble_eq_true rfl) (Nat.le_of_ble_eq_true rfl) ?_
              rintro _ _ ⟨rfl, rfl⟩
              refine x_if_eq (tgt := 110) dX2_holds_103 rfl (fun c103 => ?_) (fun c103 => ?_)
              · refine x_iconst (v := 0) dX2_holds_110 (by decide) ?_
                first | exact J111 _ (by rw [show isoS (I fa) x = true from bi_t c103]; rfl) | exact J111 _ (by rw [show isoS (I fa) x = false from bi_f c103]; rfl)
              · refine x_iconst (v := 1) dX2_holds_106 (by decide) ?_
                refine x_goto (tgt := 111) dX2_holds_107 rfl ?_
                first | exact J111 _ (by rw [show isoS (I fa) x = true from bi_t c103]; rfl) | exact J111 _ (by rw [show isoS (I fa) x = false from bi_f c103]; rfl)
            · rw [if_neg (by rw [c81]; decide)] at hE
              rw [if_pos c81] at hv
              skip
              refine x_iload_n dX2_holds_84 rfl ?_
              refine x_iload_n dX2_holds_85 rfl ?_
              refine x_iconst (v := 1) dX2_holds_86 (by decide) ?_
              refine x_iand dX2_holds_87 ?_
              refine x_ior dX2_holds_88 ?_
              refine x_istore_n dX2_holds_89 (Nat.le_of_ble_eq_true rfl) ?_
              try simp only [xst, xst2, xclr, xset, xwide]
              refine x_iload_n dX2_holds_90 rfl ?_
              refine x_iconst (v := 1) dX2_holds_91 (by decide) ?_
              refine x_ior dX2_holds_92 ?_
              refine x_istore_n dX2_holds_93 (Nat.le_of_ble_eq_true rfl) ?_
              try simp only [xst, xst2, xclr, xset, xwide]
              refine x_goto (tgt := 161) dX2_holds_94 rfl ?_
              refine x_iinc (v := (nI (i + 1))) dX2_holds_161 rfl (nI_1 _) (Nat.le_of_ble_eq_true rfl) ?_
              try simp only [xst, xst2, xclr, xset, xwide]
              refine x_goto (tgt := 21) dX2_holds_164 rfl ?_
              exact ih21 (i + 1) ((ys || ya, true, yt) :: r) _ _ _ _ _ (by omega) h1 h7 (hb.some hr6) hE hv (by omega)
          · rw [if_neg (by rw [c65]; decide)] at hE
            rw [if_pos c65] at hv
            skip
            refine x_iload dX2_holds_68 rfl ?_
            refine x_iconst (v := 1) dX2_holds_70 (by decide) ?_
            refine x_ixor dX2_holds_71 ?_
            refine x_istore dX2_holds_72 (Nat.le_of_ble_eq_true rfl) ?_
            try simp only [xst, xst2, xclr, xset, xwide]
            refine x_goto (tgt := 161) dX2_holds_74 rfl ?_
            refine x_iinc (v := (nI (i + 1))) dX2_holds_161 rfl (nI_1 _) (Nat.le_of_ble_eq_true rfl) ?_
            try simp only [xst, xst2, xclr, xset, xwide]
            refine x_goto (tgt := 21) dX2_holds_164 rfl ?_
            exact ih21 (i + 1) ((ys, ya, !yt) :: r) _ _ _ _ _ (by omega) h1 h7 (hb.turn hr6) hE hv (by omega)
        · rw [if_pos c39] at hE hv
          have hd6 : ((ys, ya, yt) :: r).length ≤ 6 := by
            by_cases z : ((ys, ya, yt) :: r).length ≤ 6
            · exact z
            · rw [if_neg z] at hE; cases hE
          rw [if_pos hd6] at hE
          skip
          refine x_iload_n dX2_holds_42 rfl ?_
          refine x_iconst (v := 1) dX2_holds_43 (by decide) ?_
          refine x_ishl dX2_holds_44 ?_
          refine x_istore_n dX2_holds_45 (Nat.le_of_ble_eq_true rfl) ?_
          try simp only [xst, xst2, xclr, xset, xwide]
          refine x_iload_n dX2_holds_46 rfl ?_
          refine x_iconst (v := 1) dX2_holds_47 (by decide) ?_
          refine x_ishl dX2_holds_48 ?_
          refine x_iconst (v := 1) dX2_holds_49 (by decide) ?_
          refine x_ior dX2_holds_50 ?_
          refine x_istore_n dX2_holds_51 (Nat.le_of_ble_eq_true rfl) ?_
          try simp only [xst, xst2, xclr, xset, xwide]
          refine x_iload dX2_holds_52 rfl ?_
          refine x_iconst (v := 1) dX2_holds_54 (by decide) ?_
          refine x_ishl dX2_holds_55 ?_
          refine x_istore dX2_holds_56 (Nat.le_of_ble_eq_true rfl) ?_
          try simp only [xst, xst2, xclr, xset, xwide]
          refine x_goto (tgt := 161) dX2_holds_58 rfl ?_
          refine x_iinc (v := (nI (i + 1))) dX2_holds_161 rfl (nI_1 _) (Nat.le_of_ble_eq_true rfl) ?_
          try simp only [xst, xst2, xclr, xset, xwide]
          refine x_goto (tgt := 21) dX2_holds_164 rfl ?_
          exact ih21 (i + 1) ((false, true, false) :: (ys, ya, yt) :: r) _ _ _ _ _ (by omega) (by rw [List.length_cons]; omega) (by rw [List.length_cons]; omega) (hb.opn hd6) hE hv (by omega)
  exact K21 _ 0 [(false, true, false)] 0 1 0 none none (Nat.zero_le _) (by decide) (by decide) ⟨rfl, rfl, rfl⟩ hE0 rfl (Nat.lt_succ_self _)
