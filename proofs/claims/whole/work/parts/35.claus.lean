/-! a clause, a land: what both readers come to -/
abbrev CL := Nat × Int32 × List Int32
def clW (T : Nat → Int32) (en sp : Nat) : Nat := if hrT T en sp = 116 then 0 else if hrT T en sp = 99 then 1 else if hrT T en sp = 100 then 2 else if hrT T en sp = 109 then 3 else 4
def chA (T : Nat → Int32) (en sp k : Nat) : Nat × Bool := spL T en (6 + k) sp false (xTl.getD (6 + k) 0)
def chN (T : Nat → Int32) (en sp k : Nat) : Int32 × Nat := fgS T en (chA T en sp k).1 (chA T en sp k).2
def chW (T : Nat → Int32) (en sp k : Nat) : Bool := fgW T en (chA T en sp k).1 (chA T en sp k).2
def chS (T : Nat → Int32) (en sp k : Nat) : Nat := muS T en (chN T en sp k).2 (chW T en sp k) 32
def chM (T : Nat → Int32) (en sp k : Nat) : Bool := muW T en (chN T en sp k).2 (chW T en sp k) 32
/-- a clause of word k is read: what it is, the spot behind -/
def ckR (T : Nat → Int32) (en sp k : Nat) (r : Option CL) (sp1 : Nat) : Prop :=
  (k = 4 ∧ r = none ∧ sp1 = sp) ∨
  (k < 2 ∧ chW T en sp k = true ∧ r = none ∧ sp1 = (chN T en sp k).2) ∨
  (k < 2 ∧ chW T en sp k = false ∧ r = some (k, (chN T en sp k).1, []) ∧ sp1 = (chN T en sp k).2) ∨
  (2 ≤ k ∧ k < 4 ∧ chM T en sp k = true ∧ r = none ∧ sp1 = chS T en sp k) ∨
  (2 ≤ k ∧ k < 4 ∧ chM T en sp k = false ∧ r = none ∧ pR T en (0, chS T en sp k, [], []) (2, sp1, [], [])) ∨
  (2 ≤ k ∧ k < 4 ∧ chM T en sp k = false ∧ ∃ tk, r = some (k, (chN T en sp k).1, tk) ∧ pR T en (0, chS T en sp k, [], []) (3, sp1, [], tk))
def clR (T : Nat → Int32) (en sp : Nat) (r : Option CL) (sp1 : Nat) : Prop := ckR T en sp (clW T en sp) r sp1
theorem ckR.un {T : Nat → Int32} {en sp k sp1 sp2 : Nat} {r1 r2 : Option CL} (h1 : ckR T en sp k r1 sp1) (h2 : ckR T en sp k r2 sp2) : r1 = r2 ∧ sp1 = sp2 := by
  unfold ckR at h1 h2
  rcases h1 with ⟨a, b, c⟩ | ⟨a, a2, b, c⟩ | ⟨a, a2, b, c⟩ | ⟨a, a1, a2, b, c⟩ | ⟨a, a1, a2, b, c⟩ | ⟨a, a1, a2, tk, b, c⟩ <;>
  rcases h2 with ⟨d, e, f⟩ | ⟨d, d2, e, f⟩ | ⟨d, d2, e, f⟩ | ⟨d, d1, d2, e, f⟩ | ⟨d, d1, d2, e, f⟩ | ⟨d, d1, d2, tk2, e, f⟩ <;>
  first
  | exact ⟨b.trans e.symm, c.trans f.symm⟩
  | (exfalso; omega)
  | exact absurd (a2.symm.trans d2) (by decide)
  | (have z := c.un f rfl rfl
     have z1 := congrArg Prod.fst z
     have z2 : sp1 = sp2 := congrArg (fun q => q.2.1) z
     first | exact absurd z1 (by decide : ¬ (2 : Nat) = 3) | exact absurd z1 (by decide : ¬ (3 : Nat) = 2) | exact ⟨b.trans e.symm, z2⟩ | exact ⟨b.trans (by rw [e, show tk = tk2 from congrArg (fun q => q.2.2.2) z]), z2⟩)
theorem clR.un {T : Nat → Int32} {en sp sp1 sp2 : Nat} {r1 r2 : Option CL} (h1 : clR T en sp r1 sp1) (h2 : clR T en sp r2 sp2) : r1 = r2 ∧ sp1 = sp2 := ckR.un h1 h2
/-- a land is read, k clauses at most, from q on -/
def ldF (T : Nat → Int32) (en : Nat) : Nat → Nat → Option (List CL) → Nat → Prop
  | 0, _, _, _ => False
  | k + 1, q, res, sp => (clR T en q none sp ∧ res = none) ∨ ∃ c sp1, clR T en q (some c) sp1 ∧ ((sp1 = en ∧ res = some [c] ∧ sp = sp1) ∨ (¬ sp1 = en ∧ (k = 0 ∨ ¬ hrT T en sp1 = 59) ∧ res = none ∧ sp = sp1) ∨ (¬ k = 0 ∧ hrT T en sp1 = 59 ∧ ∃ res1, ldF T en k (sp1 + 1) res1 sp ∧ res = res1.map (fun l => c :: l)))
theorem hr_en {T : Nat → Int32} {en : Nat} : ¬ hrT T en en = 59 := by unfold hrT; rw [if_neg (by omega)]; decide
theorem ldF.un {T : Nat → Int32} {en : Nat} : ∀ {k q : Nat} {r1 r2 : Option (List CL)} {sp1 sp2 : Nat}, ldF T en k q r1 sp1 → ldF T en k q r2 sp2 → r1 = r2 ∧ sp1 = sp2
  | 0, _, _, _, _, _, h, _ => absurd h id
  | k + 1, q, r1, r2, sp1, sp2, h1, h2 => by
    unfold ldF at h1 h2
    rcases h1 with ⟨a, b⟩ | ⟨c, p, a, b⟩
    · rcases h2 with ⟨d, e⟩ | ⟨c2, p2, d, e⟩
      · exact ⟨b.trans e.symm, (a.un d).2⟩
      · have := (a.un d).1; cases this
    · rcases h2 with ⟨d, e⟩ | ⟨c2, p2, d, e⟩
      · have := (a.un d).1; cases this
      · obtain ⟨z1, rfl⟩ := a.un d
        cases z1
        rcases b with ⟨b1, b2, b3⟩ | ⟨b1, b2, b3, b4⟩ | ⟨b1, b2, x, b3, b4⟩
        · rcases e with ⟨e1, e2, e3⟩ | ⟨e1, e2, e3, e4⟩ | ⟨e1, e2, y, e3, e4⟩
          · exact ⟨b2.trans e2.symm, b3.trans e3.symm⟩
          · exact absurd b1 e1
          · rw [b1] at e2; exact absurd e2 hr_en
        · rcases e with ⟨e1, e2, e3⟩ | ⟨e1, e2, e3, e4⟩ | ⟨e1, e2, y, e3, e4⟩
          · exact absurd e1 b1
          · exact ⟨b3.trans e3.symm, b4.trans e4.symm⟩
          · rcases b2 with z | z
            · exact absurd z e1
            · exact absurd e2 z
        · rcases e with ⟨e1, e2, e3⟩ | ⟨e1, e2, e3, e4⟩ | ⟨e1, e2, y, e3, e4⟩
          · rw [e1] at b2; exact absurd b2 hr_en
          · rcases e2 with z | z
            · exact absurd z b1
            · exact absurd b2 z
          · obtain ⟨z1, z2⟩ := ldF.un b3 e3
            exact ⟨by rw [b4, e4, z1], z2⟩
/-! what the clauses mean: word, n, whether it holds -/
abbrev CV := Nat × Int32 × ((Nat → Int32) → Bool)
def dcl (f : Nat → Int32) (sum : Int32) (c : CV) : Int32 := if c.1 < 2 then sum else if c.2.2 f = true then (if c.1 = 2 then sum + c.2.1 else sum + -c.2.1) else sum
def dl (f : Nat → Int32) : Int32 → List CV → Int32
  | s, [] => s
  | s, c :: r => dl f (dcl f s c) r
theorem dl_a {f : Nat → Int32} : ∀ (a b : List CV) (s : Int32), dl f s (a ++ b) = dl f (dl f s a) b
  | [], _, _ => rfl
  | c :: a, b, s => dl_a a b (dcl f s c)
/-- the n of the last clause of a word, v without one -/
def lst (w : Nat) : Int32 → List CV → Int32
  | v, [] => v
  | v, c :: r => lst w (if c.1 = w then c.2.1 else v) r
theorem lst_a {w : Nat} : ∀ (a b : List CV) (v : Int32), lst w v (a ++ b) = lst w (lst w v a) b
  | [], _, _ => rfl
  | c :: a, b, v => lst_a a b _
/-- a clause told by signs, and by meaning -/
def cOf (c : CL) (d : CV) : Prop := c.1 < 4 ∧ d.1 = c.1 ∧ d.2.1 = c.2.1 ∧ (∃ n, n ≤ 99 ∧ c.2.1 = nI n) ∧ (2 ≤ c.1 → mS c.2.2 d.2.2)
def csOf : List CL → List CV → Prop
  | [], [] => True
  | c :: r, d :: t => cOf c d ∧ csOf r t
  | _, _ => False
theorem csOf_a : ∀ {a : List CL} {b : List CV} {c : CL} {d : CV}, csOf a b → cOf c d → csOf (a ++ [c]) (b ++ [d])
  | [], [], _, _, _, h => ⟨h, trivial⟩
  | _ :: a, _ :: b, _, _, h, h2 => ⟨h.1, csOf_a h.2 h2⟩
  | [], _ :: _, _, _, h, _ => absurd h id
  | _ :: _, [], _, _, h, _ => absurd h id
/-- steps of clauses -/
def mL (L : List Int32) (cv : List CV) : Prop := ∀ (p : Nat → Int32) (i : Nat), (∀ j, j < L.length → p (i + j) = L.getD j 0) → (∀ f n sum, lkE p f (L.length + n) i [] sum = lkE p f n (i + L.length) [] (dl f sum cv)) ∧ ∀ n, lkV p n (i + L.length) 0 → lkV p (L.length + n) i 0
theorem mL.nil : mL [] [] := fun p i _ => ⟨fun f n sum => by rw [show ([] : List Int32).length + n = n from Nat.zero_add n]; rfl, fun n h => by rw [show ([] : List Int32).length + n = n from Nat.zero_add n]; exact h⟩
theorem mL.top {L : List Int32} {cv : List CV} (h : mL L cv) {k : Nat} {n : Int32} (hk : k < 2) {v : (Nat → Int32) → Bool} : mL L (cv ++ [(k, n, v)]) := fun p i hp => ⟨fun f m sum => by rw [(h p i hp).1, dl_a]; show _ = lkE p f m (i + L.length) [] (dcl f _ _); unfold dcl; rw [if_pos hk], (h p i hp).2⟩
theorem dcl_e {f : Nat → Int32} {sum x : Int32} {k n : Nat} {v : (Nat → Int32) → Bool} (hn : n ≤ 99) (h : (k = 2 ∧ x = -10 - nI n) ∨ (k = 3 ∧ x = -200 - nI n)) : sum + (if v f = true ∧ -200 < x then -10 - x else 0) - (if v f = true ∧ x ≤ -200 then -200 - x else 0) = dcl f sum (k, nI n, v) := by
  have hb : ∀ z : Int32, z - (z - nI n) = nI n := fun z => by grind
  have e2 : dcl f sum (k, nI n, v) = if v f = true then (if k = 2 then sum + nI n else sum + -nI n) else sum := if_neg (by rcases h with ⟨h, -⟩ | ⟨h, -⟩ <;> (show ¬ k < 2; omega))
  rw [e2]
  have hv0 : ∀ a : Int32, a + 0 - 0 = a := fun a => by rw [Int32.add_zero, Int32.sub_zero]
  cases hv : v f
  · rw [if_neg (fun z => by cases z.1), if_neg (fun z => by cases z.1), hv0]; rfl
  · rcases h with ⟨rfl, hx⟩ | ⟨rfl, hx⟩
    · have e1 : x.toInt = -10 - n := by rw [hx]; exact i_sub rfl (nI_toInt (by omega)) (by show _ ≤ (-10 : Int) - _; omega) (by show (-10 : Int) - _ < _; omega)
      have h1 : -200 < x := Int32.lt_iff_toInt_lt.mpr (by rw [e1]; show (-200 : Int) < _; omega)
      rw [if_pos ⟨rfl, h1⟩, if_neg (fun z => by exact absurd h1 (Int32.not_lt.mpr z.2)), hx, hb, Int32.sub_zero]
      rfl
    · have e1 : x.toInt = -200 - n := by rw [hx]; exact i_sub rfl (nI_toInt (by omega)) (by show _ ≤ (-200 : Int) - _; omega) (by show (-200 : Int) - _ < _; omega)
      have h1 : x ≤ -200 := Int32.le_iff_toInt_le.mpr (by rw [e1]; show _ ≤ (-200 : Int); omega)
      rw [if_neg (fun z => by exact absurd z.2 (Int32.not_lt.mpr h1)), if_pos ⟨rfl, h1⟩, hx, hb, Int32.add_zero, Int32.sub_eq_add_neg]
      rfl
theorem mL.dear {L L2 : List Int32} {cv : List CV} (h : mL L cv) {v : (Nat → Int32) → Bool} {q : Nat} (hq : q ≤ 60) (h2 : mR L2 q v) {k n : Nat} {x : Int32} (hn : n ≤ 99) (hx : (k = 2 ∧ x = -10 - nI n) ∨ (k = 3 ∧ x = -200 - nI n)) : mL (L ++ (L2 ++ [x])) (cv ++ [(k, nI n, v)]) := fun p i hp => by
  have e1 : x.toInt ≤ -10 := by
    rcases hx with ⟨-, hx⟩ | ⟨-, hx⟩
    · rw [hx, i_sub rfl (nI_toInt (by omega)) (by show _ ≤ (-10 : Int) - _; omega) (by show (-10 : Int) - _ < _; omega)]; show (-10 : Int) - _ ≤ _; omega
    · rw [hx, i_sub rfl (nI_toInt (by omega)) (by show _ ≤ (-200 : Int) - _; omega) (by show (-200 : Int) - _ < _; omega)]; show (-200 : Int) - _ ≤ _; omega
  have hx1 : ¬ 0 ≤ x ∧ ¬ x = -1 ∧ ¬ -10 < x := by
    refine ⟨fun z => ?_, fun z => ?_, fun z => ?_⟩
    · have := Int32.le_iff_toInt_le.mp z
      have e0 : (0 : Int32).toInt = 0 := rfl
      omega
    · rw [z] at e1; exact absurd e1 (by decide)
    · have := Int32.lt_iff_toInt_lt.mp z
      have e0 : (-10 : Int32).toInt = -10 := rfl
      omega
  obtain ⟨h3, h4⟩ := h p i (fun j hj => (hp j (by rw [List.length_append]; omega)).trans (gD_l hj))
  obtain ⟨h5, h6⟩ := h2 p (i + L.length) (fun j hj => by
    rw [Nat.add_assoc]
    refine (hp (L.length + j) (by rw [List.length_append, List.length_append]; omega)).trans ?_
    rw [gD_r, gD_l hj])
  have e : p (i + L.length + L2.length) = x := by
    rw [Nat.add_assoc]
    refine (hp (L.length + L2.length) (by rw [List.length_append, List.length_append]; show _ < _ + (_ + 1); omega)).trans ?_
    rw [gD_r]
    exact gD_r (L2 := [x]) (j := 0)
  have el : (L ++ (L2 ++ [x])).length = L.length + (L2.length + 1) := by rw [List.length_append, List.length_append]; rfl
  refine ⟨fun f m sum => ?_, fun m hm => ?_⟩
  · rw [el, show L.length + (L2.length + 1) + m = L.length + (L2.length + (m + 1)) by omega, h3 f _ sum, h5 f _ _ _, dl_a]
    conv => lhs; unfold lkE
    rw [e, if_neg hx1.1, if_neg hx1.2.1, if_neg hx1.2.2, show i + L.length + L2.length + 1 = i + (L.length + (L2.length + 1)) by omega]
    show lkE p f m _ [] (_ + _ - _) = lkE p f m _ [] (dcl f _ _)
    rw [dcl_e hn hx]
  · rw [el, show L.length + (L2.length + 1) + m = L.length + (L2.length + (m + 1)) by omega]
    refine h4 _ (h6 _ 0 (by omega) ?_)
    unfold lkV
    rw [e, if_neg hx1.1, if_neg hx1.2.1, if_neg hx1.2.2]
    rw [el] at hm
    refine ⟨rfl, ?_⟩
    rw [show i + L.length + L2.length + 1 = i + (L.length + (L2.length + 1)) by omega]
    exact hm
