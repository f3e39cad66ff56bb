/-! what a text means: the class's signs, the reference's steps -/
def fB (f : Nat → Int32) : Prop := ∀ j, j < 6 → -1000 ≤ (f j).toInt ∧ (f j).toInt ≤ 1000
/-- is a sign that is a TEST so -/
def isoS (f : Nat → Int32) (x : Int32) : Bool :=
  if x - 128 < 0 ∨ 6 ≤ (x - 128) / 300 then false
  else if (x - 128) / 100 - (x - 128) / 100 / 3 * 3 = 0 then decide (f ((x - 128) / 300).toNatClampNeg - ((x - 128) - (x - 128) / 100 * 100) < 0)
  else if (x - 128) / 100 - (x - 128) / 100 / 3 * 3 = 1 then decide (f ((x - 128) / 300).toNatClampNeg - ((x - 128) - (x - 128) / 100 * 100) = 0)
  else decide (0 < f ((x - 128) / 300).toNatClampNeg - ((x - 128) - (x - 128) / 100 * 100))
abbrev HB := Bool × Bool × Bool
/-- a value comes -/
def hV (v : Bool) : List HB → List HB
  | [] => []
  | (s, a, t) :: r => (s, a && xor v t, false) :: r
/-- a sign comes; of each bracket: some, all, turned, the innermost first -/
def hS (f : Nat → Int32) (x : Int32) : List HB → List HB
  | [] => []
  | (s, a, t) :: r => if x = 40 then (false, true, false) :: (s, a, t) :: r else if x = 33 then (s, a, !t) :: r else if x = 124 then (s || a, true, t) :: r else if x = 41 then hV (s || a) r else hV (isoS f x) ((s, a, t) :: r)
def hF (f : Nat → Int32) : List Int32 → List HB → List HB
  | [], st => st
  | x :: l, st => hF f l (hS f x st)
theorem hF_a {f : Nat → Int32} : ∀ (l1 l2 : List Int32) (st : List HB), hF f (l1 ++ l2) st = hF f l2 (hF f l1 st)
  | [], _, _ => rfl
  | x :: l1, l2, st => hF_a l1 l2 (hS f x st)
def hC (f : Nat → Int32) (l : List Int32) : Bool := match hF f l [(false, true, false)] with
  | [] => false
  | (s, a, _) :: _ => s || a
def mF (l : List Int32) (v : (Nat → Int32) → Bool) : Prop := ∀ f, fB f → ∀ s a t r, hF f l ((s, a, t) :: r) = (s, a && xor (v f) t, false) :: r
def mE (l : List Int32) (v : (Nat → Int32) → Bool) : Prop := ∀ f, fB f → ∀ s a r, hF f l ((s, a, false) :: r) = (s, a && v f, false) :: r
def mS (l : List Int32) (v : (Nat → Int32) → Bool) : Prop := ∀ f, fB f → ∀ r, ∃ s a, hF f l ((false, true, false) :: r) = (s, a, false) :: r ∧ (s || a) = v f
theorem mF.e {l : List Int32} {v : (Nat → Int32) → Bool} (h : mF l v) : mE l v := fun f hf s a r => by rw [h f hf s a false r, Bool.xor_false]
theorem mE.and {l l2 : List Int32} {v v2 : (Nat → Int32) → Bool} (h : mE l v) (h2 : mF l2 v2) : mE (l ++ l2) (fun f => v f && v2 f) := fun f hf s a r => by rw [hF_a, h f hf, h2 f hf, Bool.xor_false, Bool.and_assoc]
theorem mE.s {l : List Int32} {v : (Nat → Int32) → Bool} (h : mE l v) : mS l v := fun f hf r => ⟨false, v f, by rw [h f hf, Bool.true_and], by rw [Bool.false_or]⟩
theorem mS.or {l l2 : List Int32} {v v2 : (Nat → Int32) → Bool} (h : mS l v) (h2 : mE l2 v2) : mS (l ++ 124 :: l2) (fun f => v f || v2 f) := fun f hf r => by
  obtain ⟨s, a, h3, h4⟩ := h f hf r
  refine ⟨s || a, v2 f, ?_, by rw [h4]⟩
  rw [hF_a, h3]
  show hF f l2 (hS f 124 _) = _
  rw [show hS f 124 ((s, a, false) :: r) = (s || a, true, false) :: r from rfl, h2 f hf, Bool.true_and]
theorem mF.not {l : List Int32} {v : (Nat → Int32) → Bool} (h : mF l v) : mF (33 :: l) (fun f => !v f) := fun f hf s a t r => by
  show hF f l (hS f 33 _) = _
  rw [show hS f 33 ((s, a, t) :: r) = (s, a, !t) :: r from rfl, h f hf]
  show (s, a && xor (v f) (!t), false) :: r = (s, a && xor (!v f) t, false) :: r
  cases v f <;> cases t <;> rfl
theorem mS.par {l : List Int32} {v : (Nat → Int32) → Bool} (h : mS l v) : mF (40 :: (l ++ [41])) v := fun f hf s a t r => by
  obtain ⟨s2, a2, h3, h4⟩ := h f hf ((s, a, t) :: r)
  show hF f (l ++ [41]) (hS f 40 _) = _
  rw [show hS f 40 ((s, a, t) :: r) = (false, true, false) :: (s, a, t) :: r from rfl, hF_a, h3]
  show hS f 41 ((s2, a2, false) :: (s, a, t) :: r) = _
  rw [show hS f 41 ((s2, a2, false) :: (s, a, t) :: r) = hV (s2 || a2) ((s, a, t) :: r) from rfl, h4]
  rfl
theorem mS.c {l : List Int32} {v : (Nat → Int32) → Bool} (h : mS l v) {f : Nat → Int32} (hf : fB f) : hC f l = v f := by
  obtain ⟨s, a, h1, h2⟩ := h f hf []
  unfold hC
  rw [h1]
  exact h2
theorem nI_d {a d : Nat} (ha : a < 2 ^ 31) (h0 : 0 < d) (hd : d < 2 ^ 31) : nI a / nI d = nI (a / d) := pk_div ha h0 hd
/-- a TEST told the class's way is the one told the reference's way -/
theorem iso_lk {f : Nat → Int32} (hf : fB f) {a b v : Nat} (ha : a < 6) (hb : b < 3) (hv : v ≤ 99) : isoS f (nI (128 + (a * 3 + b) * 100 + v)) = lkT f (nI (a + 8 * b + 32 * v)) := by
  have e0 : nI (128 + (a * 3 + b) * 100 + v) - 128 = nI ((a * 3 + b) * 100 + v) := by
    rw [show (128 : Int32) = nI 128 from rfl, pk_sub (by omega)]; exact congrArg nI (by omega)
  have e1 : nI ((a * 3 + b) * 100 + v) / 300 = nI a := by
    rw [show (300 : Int32) = nI 300 from rfl, pk_div (by omega) (by decide) (by decide)]; exact congrArg nI (by omega)
  have e2 : nI ((a * 3 + b) * 100 + v) / 100 = nI (a * 3 + b) := by
    rw [show (100 : Int32) = nI 100 from rfl, pk_div (by omega) (by decide) (by decide)]; exact congrArg nI (by omega)
  have e3 : nI (a * 3 + b) - nI (a * 3 + b) / 3 * 3 = nI b := by
    rw [show (3 : Int32) = nI 3 from rfl, pk_rem (by omega) (by decide) (by decide)]; exact congrArg nI (by omega)
  have e4 : nI ((a * 3 + b) * 100 + v) - nI (a * 3 + b) * 100 = nI v := by
    rw [show nI (a * 3 + b) * (100 : Int32) = nI ((a * 3 + b) * 100) from pk_mul _ 100, pk_sub (by omega)]; exact congrArg nI (by omega)
  have r1 : nI (a + 8 * b + 32 * v) / 8 = nI (b + 4 * v) := by
    rw [show (8 : Int32) = nI 8 from rfl, pk_div (by omega) (by decide) (by decide)]; exact congrArg nI (by omega)
  have r2 : nI (b + 4 * v) - nI (b + 4 * v) / 4 * 4 = nI b := by
    rw [show (4 : Int32) = nI 4 from rfl, pk_rem (by omega) (by decide) (by decide)]; exact congrArg nI (by omega)
  have r3 : nI (a + 8 * b + 32 * v) / 32 = nI v := by
    rw [show (32 : Int32) = nI 32 from rfl, pk_div (by omega) (by decide) (by decide)]; exact congrArg nI (by omega)
  have r4 : nI (a + 8 * b + 32 * v) - nI (b + 4 * v) * 8 = nI a := by
    rw [show nI (b + 4 * v) * (8 : Int32) = nI ((b + 4 * v) * 8) from pk_mul _ 8, pk_sub (by omega)]; exact congrArg nI (by omega)
  unfold isoS lkT
  rw [e0, e1, e2, e3, e4, r1, r2, r3, r4, nI_clamp (by omega)]
  rw [if_neg (by
    rintro (z | z)
    · exact nI_pos (by omega) z
    · have := (nI_leI (a := 6) (b := a) (by omega) (by omega)).mp z; omega)]
  obtain ⟨hf1, hf2⟩ := hf a ha
  have hd : (f a - nI v).toInt = (f a).toInt - v := i_sub rfl (nI_toInt (by omega)) (by omega) (by omega)
  have k1 : (f a - nI v < 0) ↔ f a < nI v := by
    rw [Int32.lt_iff_toInt_lt, Int32.lt_iff_toInt_lt, hd, nI_toInt (by omega)]
    show (f a).toInt - v < 0 ↔ _
    omega
  have k2 : (f a - nI v = 0) ↔ f a = nI v := by
    rw [← Int32.toInt_inj, ← Int32.toInt_inj, hd, nI_toInt (by omega)]
    show (f a).toInt - v = 0 ↔ _
    omega
  have k3 : (0 < f a - nI v) ↔ nI v < f a := by
    rw [Int32.lt_iff_toInt_lt, Int32.lt_iff_toInt_lt, hd, nI_toInt (by omega)]
    show 0 < (f a).toInt - v ↔ _
    omega
  rw [decide_eq_decide.mpr k1, decide_eq_decide.mpr k2, decide_eq_decide.mpr k3]
theorem hS_c {f : Nat → Int32} {x : Int32} {s a t : Bool} {r : List HB} : hS f x ((s, a, t) :: r) = if x = 40 then (false, true, false) :: (s, a, t) :: r else if x = 33 then (s, a, !t) :: r else if x = 124 then (s || a, true, t) :: r else if x = 41 then hV (s || a) r else hV (isoS f x) ((s, a, t) :: r) := rfl
theorem mF.ts {a b v : Nat} (ha : a < 6) (hb : b < 3) (hv : v ≤ 99) : mF [nI (128 + (a * 3 + b) * 100 + v)] (fun f => lkT f (nI (a + 8 * b + 32 * v))) := fun f hf s c t r => by
  show hS f (nI (128 + (a * 3 + b) * 100 + v)) ((s, c, t) :: r) = _
  have hn : ∀ k : Nat, k < 128 → ¬ nI (128 + (a * 3 + b) * 100 + v) = nI k := fun k hk z => by have := (nI_eqI (by omega) (by omega)).mp z; omega
  rw [hS_c, if_neg (show ¬ nI (128 + (a * 3 + b) * 100 + v) = (40 : Int32) from hn 40 (by decide)), if_neg (show ¬ nI (128 + (a * 3 + b) * 100 + v) = (33 : Int32) from hn 33 (by decide)), if_neg (show ¬ nI (128 + (a * 3 + b) * 100 + v) = (124 : Int32) from hn 124 (by decide)), if_neg (show ¬ nI (128 + (a * 3 + b) * 100 + v) = (41 : Int32) from hn 41 (by decide)), iso_lk hf ha hb hv]
  rfl
/-! the reference's steps: k how many truths more may lie on the pile -/
def mR (L : List Int32) (k : Nat) (v : (Nat → Int32) → Bool) : Prop := ∀ (p : Nat → Int32) (i : Nat), (∀ j, j < L.length → p (i + j) = L.getD j 0) → (∀ f n st sum, lkE p f (L.length + n) i st sum = lkE p f n (i + L.length) (v f :: st) sum) ∧ ∀ n d, d + k ≤ 60 → lkV p n (i + L.length) (d + 1) → lkV p (L.length + n) i d
theorem mR.mono {L : List Int32} {k k2 : Nat} {v : (Nat → Int32) → Bool} (h : mR L k v) (hk : k ≤ k2) : mR L k2 v := fun p i hp => ⟨(h p i hp).1, fun n d hd => (h p i hp).2 n d (by omega)⟩
theorem gD_l {L L2 : List Int32} {j : Nat} (h : j < L.length) : (L ++ L2).getD j 0 = L.getD j 0 := by
  rw [List.getD_eq_getElem?_getD, List.getD_eq_getElem?_getD, List.getElem?_append_left h]
theorem gD_r {L L2 : List Int32} {j : Nat} : (L ++ L2).getD (L.length + j) 0 = L2.getD j 0 := by
  rw [List.getD_eq_getElem?_getD, List.getD_eq_getElem?_getD, List.getElem?_append_right (by omega), Nat.add_sub_cancel_left]
theorem mR.ts {a b v : Nat} (ha : a < 6) (hb : b < 3) (hv : v ≤ 99) {k : Nat} : mR [nI (a + 8 * b + 32 * v)] k (fun f => lkT f (nI (a + 8 * b + 32 * v))) := fun p i hp => by
  have e : p i = nI (a + 8 * b + 32 * v) := hp 0 (Nat.zero_lt_succ _)
  have h0 : 0 ≤ nI (a + 8 * b + 32 * v) := Int32.not_lt.mp (nI_pos (by omega))
  refine ⟨fun f n st sum => ?_, fun n d hd h => ?_⟩
  · rw [show [nI (a + 8 * b + 32 * v)].length + n = n + 1 from Nat.add_comm _ _, show i + [nI (a + 8 * b + 32 * v)].length = i + 1 from rfl]
    conv => lhs; unfold lkE
    rw [e, if_pos h0]
  · rw [show [nI (a + 8 * b + 32 * v)].length + n = n + 1 from Nat.add_comm _ _]
    unfold lkV
    rw [e, if_pos h0]
    refine ⟨⟨a, ha, ?_⟩, by omega, h⟩
    have r1 : nI (a + 8 * b + 32 * v) / 8 = nI (b + 4 * v) := by
      rw [show (8 : Int32) = nI 8 from rfl, pk_div (by omega) (by decide) (by decide)]; exact congrArg nI (by omega)
    rw [r1, show nI (b + 4 * v) * (8 : Int32) = nI ((b + 4 * v) * 8) from pk_mul _ 8, pk_sub (by omega)]; exact congrArg nI (by omega)
theorem mR.not {L : List Int32} {k : Nat} {v : (Nat → Int32) → Bool} (h : mR L k v) : mR (L ++ [-1]) k (fun f => !v f) := fun p i hp => by
  obtain ⟨h1, h2⟩ := h p i (fun j hj => (hp j (by rw [List.length_append]; omega)).trans (gD_l hj))
  have e : p (i + L.length) = -1 := (hp L.length (by rw [List.length_append]; show _ < _ + 1; omega)).trans (gD_r (L2 := [-1]) (j := 0))
  refine ⟨fun f n st sum => ?_, fun n d hd h => ?_⟩
  · rw [List.length_append, show L.length + [(-1 : Int32)].length + n = L.length + (n + 1) by show L.length + 1 + n = _; omega, h1 f (n + 1) st sum]
    conv => lhs; unfold lkE
    rw [e, if_neg (by decide), if_pos rfl]
    rfl
  · rw [List.length_append, show L.length + [(-1 : Int32)].length + n = L.length + (n + 1) by show L.length + 1 + n = _; omega]
    refine h2 (n + 1) d hd ?_
    unfold lkV
    rw [e, if_neg (by decide), if_pos rfl]
    rw [List.length_append] at h
    exact ⟨by omega, h⟩
theorem mR.bin {L L2 : List Int32} {k k2 : Nat} {v v2 : (Nat → Int32) → Bool} {x : Int32} (hx : x = -2 ∨ x = -3) (h : mR L k v) (h2 : mR L2 k2 v2) (hk : k2 + 1 ≤ k) : mR (L ++ (L2 ++ [x])) k (fun f => if x = -2 then v f && v2 f else v f || v2 f) := fun p i hp => by
  have hx1 : ¬ 0 ≤ x ∧ ¬ x = -1 ∧ -10 < x := by rcases hx with rfl | rfl <;> decide
  obtain ⟨h3, h4⟩ := h p i (fun j hj => (hp j (by rw [List.length_append]; omega)).trans (gD_l hj))
  obtain ⟨h5, h6⟩ := h2 p (i + L.length) (fun j hj => by
    rw [Nat.add_assoc]
    refine (hp (L.length + j) (by rw [List.length_append, List.length_append]; omega)).trans ?_
    rw [gD_r, gD_l hj])
  have e : p (i + L.length + L2.length) = x := by
    rw [Nat.add_assoc]
    refine (hp (L.length + L2.length) (by rw [List.length_append, List.length_append]; show _ < _ + (_ + 1); omega)).trans ?_
    rw [gD_r]
    exact gD_r (L2 := [x]) (j := 0)
  have el : (L ++ (L2 ++ [x])).length = L.length + (L2.length + 1) := by rw [List.length_append, List.length_append]; rfl
  refine ⟨fun f n st sum => ?_, fun n d hd h => ?_⟩
  · rw [el, show L.length + (L2.length + 1) + n = L.length + (L2.length + (n + 1)) by omega, h3 f _ st sum, h5 f _ _ sum]
    conv => lhs; unfold lkE
    rw [e, if_neg hx1.1, if_neg hx1.2.1, if_pos hx1.2.2, show i + L.length + L2.length + 1 = i + (L.length + (L2.length + 1)) by omega]
  · rw [el, show L.length + (L2.length + 1) + n = L.length + (L2.length + (n + 1)) by omega]
    refine h4 _ d hd (h6 _ (d + 1) (by omega) ?_)
    unfold lkV
    rw [e, if_neg hx1.1, if_neg hx1.2.1, if_pos hx1.2.2]
    refine ⟨by omega, ?_⟩
    rw [el] at h
    rw [show i + L.length + L2.length + 1 = i + (L.length + (L2.length + 1)) by omega]
    exact h
