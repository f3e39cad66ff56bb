/-! a clause of the class: signs gone through with bits -/
/-- how deep signs go, from d on -/
def tkE : Nat → List Int32 → Option Nat
  | d, [] => some d
  | d, x :: l => if x = 40 then (if d ≤ 6 then tkE (d + 1) l else none) else if x = 41 then (if 2 ≤ d then tkE (d - 1) l else none) else tkE d l
theorem tkE_c {d : Nat} {x : Int32} {l : List Int32} : tkE d (x :: l) = if x = 40 then (if d ≤ 6 then tkE (d + 1) l else none) else if x = 41 then (if 2 ≤ d then tkE (d - 1) l else none) else tkE d l := rfl
theorem tkE_a : ∀ {d : Nat} {l l2 : List Int32} {e : Nat}, tkE d l = some e → tkE d (l ++ l2) = tkE e l2
  | d, [], l2, e, h => by cases h; rfl
  | d, x :: l, l2, e, h => by
    show tkE d (x :: (l ++ l2)) = _
    rw [tkE_c] at h
    rw [tkE_c]
    split
    · rename_i hx
      rw [if_pos hx] at h
      split
      · rename_i hd; rw [if_pos hd] at h; exact tkE_a h
      · rename_i hd; rw [if_neg hd] at h; cases h
    · rename_i hx
      rw [if_neg hx] at h
      split
      · rename_i hy
        rw [if_pos hy] at h
        split
        · rename_i hd; rw [if_pos hd] at h; exact tkE_a h
        · rename_i hd; rw [if_neg hd] at h; cases h
      · rename_i hy; rw [if_neg hy] at h; exact tkE_a h
def cntF : List Bool → Nat
  | [] => 0
  | b :: r => cntF r + if b = true then 0 else 1
theorem cntF_le : ∀ l, cntF l ≤ l.length
  | [] => Nat.le_refl _
  | b :: r => by
    have := cntF_le r
    unfold cntF
    rw [List.length_cons]
    split <;> omega
/-- what holds of the machine at work -/
def pI (q : PQ) : Prop := (q.1 = 0 ∨ q.1 = 1 ∨ q.1 = 3) → q.2.2.1.length ≤ 5 ∧ tkE 1 q.2.2.2 = some (1 + cntF q.2.2.1)
theorem tkE_1 {d : Nat} {x : Int32} (h1 : ¬ x = 40) (h2 : ¬ x = 41) : tkE d [x] = some d := by unfold tkE; rw [if_neg h1, if_neg h2]; rfl
theorem tsT_n {T : Nat → Int32} {en sp : Nat} (h : tsW T en sp = false) : ¬ tsT T en sp = 40 ∧ ¬ tsT T en sp = 41 ∧ ¬ tsT T en sp = 33 ∧ ¬ tsT T en sp = 124 := by
  obtain ⟨a, b, v, ha, hb, hv, -, -, -, -, -, -, e, -⟩ := ts_ok h
  have hn : ∀ k : Nat, k < 128 → ¬ nI (128 + (a * 3 + b) * 100 + v) = nI k := fun k hk z => by have := (nI_eqI (by omega) (by omega)).mp z; omega
  rw [e]
  exact ⟨hn 40 (by decide), hn 41 (by decide), hn 33 (by decide), hn 124 (by decide)⟩
theorem pI.st {T : Nat → Int32} {en : Nat} : ∀ {q : PQ}, pI q → pI (pS T en q)
  | (0, sp, tu, cd), h => by
    obtain ⟨h1, h2⟩ := h (Or.inl rfl)
    have h1 : tu.length ≤ 5 := h1
    have h2 : tkE 1 cd = some (1 + cntF tu) := h2
    rw [pS_0]
    by_cases hc : hrT T en sp = 33 ∨ hrT T en sp = 40
    · rw [if_pos hc]
      by_cases h5 : 5 ≤ tu.length
      · rw [if_pos h5]; intro z; rcases z with z | z | z <;> cases z
      · rw [if_neg h5]
        intro _
        refine ⟨by show tu.length + 1 ≤ 5; omega, ?_⟩
        show tkE 1 (cd ++ [hrT T en sp]) = some (1 + (cntF tu + if decide (hrT T en sp = 33) = true then 0 else 1))
        rw [tkE_a h2]
        rcases hc with hc | hc
        · rw [hc]; exact tkE_1 (by decide) (by decide)
        · rw [hc]
          have := cntF_le tu
          show (if (40 : Int32) = 40 then (if 1 + cntF tu ≤ 6 then some (1 + cntF tu + 1) else none) else _) = _
          rw [if_pos rfl, if_pos (by omega)]
          rfl
    · rw [if_neg hc]
      cases hw : tsW T en sp
      · rw [if_neg (by decide)]
        intro _
        refine ⟨h1, ?_⟩
        show tkE 1 (cd ++ [tsT T en sp]) = some (1 + cntF tu)
        rw [tkE_a h2]
        exact tkE_1 (tsT_n hw).1 (tsT_n hw).2.1
      · rw [if_pos rfl]; intro z; rcases z with z | z | z <;> cases z
  | (1, sp, true :: tu, cd), h => by
    obtain ⟨h1, h2⟩ := h (Or.inr (Or.inl rfl))
    have h1 : tu.length + 1 ≤ 5 := h1
    intro _
    exact ⟨by show tu.length ≤ 5; omega, h2⟩
  | (1, sp, false :: tu, cd), h => by
    obtain ⟨h1, h2⟩ := h (Or.inr (Or.inl rfl))
    have h1 : tu.length + 1 ≤ 5 := h1
    have h2 : tkE 1 cd = some (1 + (cntF tu + 1)) := h2
    rw [pS_f]
    split
    · intro _
      refine ⟨by show tu.length ≤ 5; omega, ?_⟩
      show tkE 1 (cd ++ [41]) = some (1 + cntF tu)
      rw [tkE_a h2]
      show (if (41 : Int32) = 40 then _ else if (41 : Int32) = 41 then (if 2 ≤ 1 + (cntF tu + 1) then some (1 + (cntF tu + 1) - 1) else none) else _) = _
      rw [if_neg (by decide), if_pos rfl, if_pos (by omega)]
      congr 1
    · split
      · intro _
        refine ⟨h1, ?_⟩
        show tkE 1 (cd ++ [124]) = some (1 + (cntF tu + 1))
        rw [tkE_a h2]
        exact tkE_1 (by decide) (by decide)
      · split
        · intro _; exact ⟨h1, h2⟩
        · intro z; rcases z with z | z | z <;> cases z
  | (1, sp, [], cd), h => by
    obtain ⟨h1, h2⟩ := h (Or.inr (Or.inl rfl))
    have h2 : tkE 1 cd = some 1 := h2
    rw [pS_n]
    split
    · intro _
      refine ⟨Nat.zero_le _, ?_⟩
      show tkE 1 (cd ++ [124]) = some 1
      rw [tkE_a h2]
      exact tkE_1 (by decide) (by decide)
    · split
      · intro _; exact ⟨Nat.zero_le _, h2⟩
      · intro _; exact ⟨Nat.zero_le _, h2⟩
  | (n + 2, sp, tu, cd), h => h
theorem pI.it {T : Nat → Int32} {en : Nat} : ∀ {n : Nat} {q : PQ}, pI q → pI (itr (pS T en) n q)
  | 0, _, h => h
  | n + 1, _, h => pI.it (n := n) h.st
/-- the signs of a whole E go one deep at the end -/
theorem pR_tk {T : Nat → Int32} {en sp sp1 : Nat} {tk : List Int32} (h : pR T en (0, sp, [], []) (3, sp1, [], tk)) : tkE 1 tk = some 1 := by
  obtain ⟨n, h⟩ := h
  have h0 : pI (0, sp, [], []) := fun _ => ⟨Nat.zero_le _, rfl⟩
  have h1 := h0.it (T := T) (en := en) (n := n)
  rw [h] at h1
  exact (h1 (Or.inr (Or.inr rfl))).2
/-! bits -/
def b1 (b : Bool) : Nat := if b = true then 1 else 0
def enc (p : HB → Bool) : List HB → Nat
  | [] => 0
  | x :: r => b1 (p x) + 2 * enc p r
theorem enc_lt {p : HB → Bool} : ∀ {l : List HB} {k : Nat}, l.length ≤ k → enc p l < 2 ^ k
  | [], k, _ => Nat.two_pow_pos k
  | x :: r, 0, h => by rw [List.length_cons] at h; omega
  | x :: r, k + 1, h => by
    rw [List.length_cons] at h
    have := enc_lt (p := p) (l := r) (k := k) (by omega)
    show b1 (p x) + 2 * enc p r < 2 ^ (k + 1)
    have hb : b1 (p x) ≤ 1 := by unfold b1; split <;> omega
    rw [Nat.pow_succ]; omega
theorem bt_shl : ∀ a : Fin 128, nI a.1 <<< ((1 : Int32) &&& 31) = nI (2 * a.1) := by decide +kernel
theorem bt_or1 : ∀ (b : Bool) (r : Fin 128), nI (b1 b + 2 * r.1) ||| 1 = nI (1 + 2 * r.1) := by decide +kernel
theorem bt_or0 : ∀ r : Fin 128, nI (2 * r.1) ||| 1 = nI (1 + 2 * r.1) := by decide +kernel
theorem bt_xor : ∀ (b : Bool) (r : Fin 128), nI (b1 b + 2 * r.1) ^^^ 1 = nI (b1 (!b) + 2 * r.1) := by decide +kernel
theorem bt_and1 : ∀ (b : Bool) (r : Fin 128), nI (b1 b + 2 * r.1) &&& 1 = nI (b1 b) := by decide +kernel
theorem bt_orb : ∀ (b c : Bool) (r : Fin 128), nI (b1 b + 2 * r.1) ||| nI (b1 c) = nI (b1 (b || c) + 2 * r.1) := by decide +kernel
theorem bt_shr : ∀ (b : Bool) (r : Fin 128), nI (b1 b + 2 * r.1) >>> ((1 : Int32) &&& 31) = nI r.1 := by decide +kernel
theorem bt_v : ∀ (v t a : Bool) (q r : Fin 128), True := fun _ _ _ _ _ => trivial
theorem bt_x : ∀ v t : Bool, nI (b1 v) ^^^ nI (b1 t) = nI (b1 (xor v t)) := by decide +kernel
theorem bt_m2 : ∀ (b : Bool) (r : Fin 128), nI (b1 b + 2 * r.1) &&& -2 = nI (b1 false + 2 * r.1) := by decide +kernel
theorem bt_all : ∀ (a w : Bool) (r : Fin 128), nI (b1 a + 2 * r.1) &&& (-2 ||| nI (b1 w)) = nI (b1 (a && w) + 2 * r.1) := by decide +kernel
theorem bt_oo (x z : Int32) : (x ||| z) &&& 1 = (x &&& 1) ||| (z &&& 1) := by
  apply Int32.toBitVec_inj.mp
  simp only [Int32.toBitVec_and, Int32.toBitVec_or]
  ext i hi
  simp only [BitVec.getElem_and, BitVec.getElem_or]
  exact Bool.and_or_distrib_right _ _ _
theorem bt_bb : ∀ a c : Bool, nI (b1 a) ||| nI (b1 c) = nI (b1 (a || c)) := by decide +kernel
abbrev hA (x : HB) : Bool := x.1
abbrev hB (x : HB) : Bool := x.2.1
abbrev hT (x : HB) : Bool := x.2.2
/-- the bits stand for the stack -/
def xBt (stk : List HB) (s a t : Int32) : Prop := s = nI (enc hA stk) ∧ a = nI (enc hB stk) ∧ t = nI (enc hT stk)
theorem e128 {p : HB → Bool} {l : List HB} (h : l.length ≤ 7) : enc p l < 128 := enc_lt (k := 7) h
theorem xBt.opn {stk : List HB} {s a t : Int32} (h : xBt stk s a t) (hl : stk.length ≤ 6) : xBt ((false, true, false) :: stk) (s <<< ((1 : Int32) &&& 31)) (a <<< ((1 : Int32) &&& 31) ||| 1) (t <<< ((1 : Int32) &&& 31)) := by
  obtain ⟨rfl, rfl, rfl⟩ := h
  have q : ∀ p : HB → Bool, nI (enc p stk) <<< ((1 : Int32) &&& 31) = nI (2 * enc p stk) := fun p => bt_shl ⟨enc p stk, e128 (by omega)⟩
  refine ⟨?_, ?_, ?_⟩
  · rw [q]; show _ = nI (0 + 2 * enc hA stk); rw [Nat.zero_add]
  · rw [q]; exact bt_or0 ⟨enc hB stk, e128 (by omega)⟩
  · rw [q]; show _ = nI (0 + 2 * enc hT stk); rw [Nat.zero_add]
theorem xBt.turn {x : HB} {r : List HB} {s a t : Int32} (h : xBt (x :: r) s a t) (hl : r.length ≤ 6) : xBt ((x.1, x.2.1, !x.2.2) :: r) s a (t ^^^ 1) := by
  obtain ⟨rfl, rfl, rfl⟩ := h
  exact ⟨rfl, rfl, bt_xor x.2.2 ⟨enc hT r, e128 (by omega)⟩⟩
theorem xBt.some {x : HB} {r : List HB} {s a t : Int32} (h : xBt (x :: r) s a t) (hl : r.length ≤ 6) : xBt ((x.1 || x.2.1, true, x.2.2) :: r) (s ||| a &&& 1) (a ||| 1) t := by
  obtain ⟨rfl, rfl, rfl⟩ := h
  refine ⟨?_, bt_or1 x.2.1 ⟨enc hB r, e128 (by omega)⟩, rfl⟩
  show nI (b1 x.1 + 2 * enc hA r) ||| nI (b1 x.2.1 + 2 * enc hB r) &&& 1 = _
  rw [bt_and1 x.2.1 ⟨enc hB r, e128 (by omega)⟩]
  exact bt_orb x.1 x.2.1 ⟨enc hA r, e128 (by omega)⟩
theorem xBt.val {x : HB} {r : List HB} {s a t : Int32} (h : xBt (x :: r) s a t) (hl : r.length ≤ 6) (v : Bool) : xBt ((x.1, x.2.1 && xor v x.2.2, false) :: r) s (a &&& (-2 ||| nI (b1 v) ^^^ t &&& 1)) (t &&& -2) := by
  obtain ⟨rfl, rfl, rfl⟩ := h
  refine ⟨rfl, ?_, bt_m2 x.2.2 ⟨enc hT r, e128 (by omega)⟩⟩
  show nI (b1 x.2.1 + 2 * enc hB r) &&& (-2 ||| nI (b1 v) ^^^ nI (b1 x.2.2 + 2 * enc hT r) &&& 1) = _
  rw [bt_and1 x.2.2 ⟨enc hT r, e128 (by omega)⟩, bt_x]
  exact bt_all x.2.1 _ ⟨enc hB r, e128 (by omega)⟩
theorem xBt.hd {x : HB} {r : List HB} {s a t : Int32} (h : xBt (x :: r) s a t) (hl : r.length ≤ 6) : (s ||| a) &&& 1 = nI (b1 (x.1 || x.2.1)) := by
  obtain ⟨rfl, rfl, rfl⟩ := h
  rw [bt_oo]
  show (nI (b1 x.1 + 2 * enc hA r) &&& 1) ||| (nI (b1 x.2.1 + 2 * enc hB r) &&& 1) = _
  rw [bt_and1 x.1 ⟨enc hA r, e128 (by omega)⟩, bt_and1 x.2.1 ⟨enc hB r, e128 (by omega)⟩]
  exact bt_bb _ _
theorem xBt.tl {x : HB} {r : List HB} {s a t : Int32} (h : xBt (x :: r) s a t) (hl : r.length ≤ 6) : xBt r (s >>> ((1 : Int32) &&& 31)) (a >>> ((1 : Int32) &&& 31)) (t >>> ((1 : Int32) &&& 31)) := by
  obtain ⟨rfl, rfl, rfl⟩ := h
  exact ⟨bt_shr x.1 ⟨enc hA r, e128 (by omega)⟩, bt_shr x.2.1 ⟨enc hB r, e128 (by omega)⟩, bt_shr x.2.2 ⟨enc hT r, e128 (by omega)⟩⟩
