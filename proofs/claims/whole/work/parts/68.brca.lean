/-! carrying: rows one by one are the reference's nested rows -/
theorem b_ext {x y : Int64} (h : ∀ i, i < 64 → x.toBitVec.getLsbD i = y.toBitVec.getLsbD i) : x = y := Int64.toBitVec_inj.mp (BitVec.eq_of_getLsbD_eq (fun i hi => h i hi))
theorem b_and {x y : Int64} {i : Nat} : (x &&& y).toBitVec.getLsbD i = (x.toBitVec.getLsbD i && y.toBitVec.getLsbD i) := by rw [Int64.toBitVec_and, BitVec.getLsbD_and]
theorem b_or {x y : Int64} {i : Nat} : (x ||| y).toBitVec.getLsbD i = (x.toBitVec.getLsbD i || y.toBitVec.getLsbD i) := by rw [Int64.toBitVec_or, BitVec.getLsbD_or]
theorem al_b : ∀ n : Fin 31, ∀ i : Fin 64, (alN (nI n.1)).toBitVec.getLsbD i.1 = decide (i.1 ≤ n.1) := by decide +kernel
theorem al_M : ∀ i : Fin 64, (2147483647 : Int64).toBitVec.getLsbD i.1 = decide (i.1 < 31) := by decide +kernel
theorem sh_b : ∀ w : Fin 31, (((nI w.1).toInt64 &&& 63).toBitVec.smod 64).toNat = w.1 := by decide +kernel
theorem b_shl {x : Int64} {w i : Nat} (hw : w < 31) (hi : i < 64) : (x <<< ((nI w).toInt64 &&& 63)).toBitVec.getLsbD i = (!decide (i < w) && x.toBitVec.getLsbD (i - w)) := by
  have h := sh_b ⟨w, hw⟩
  rw [Int64.toBitVec_shiftLeft, BitVec.shiftLeft_eq', h, BitVec.getLsbD_shiftLeft, decide_eq_true hi, Bool.true_and]
def ckI (a : Int64) (w : Int32) (x : Int64) : Nat → Int64
  | 0 => x
  | k + 1 => ckI a w x k ||| (ckI a w x k <<< (w.toInt64 &&& 63) &&& a)
def ckS (a : Int64) (n w : Int32) (x : Int64) (k : Nat) : Int64 := if w ≤ n then ckI a w x k else x
def pcP (n : Int32) (w : Nat → Int32) (d : Nat → Nat) : Nat → Int64
  | 0 => 1
  | c + 1 => ckS (alN n) n (w c) (pcP n w d c) (d c)
def stP (w : Nat → Int32) (d : Nat → Nat) : Nat → Int64
  | 0 => 1
  | c + 1 => spS (w c) (stP w d c) (d c)
theorem ck_in {n w : Nat} {x : Int64} (hn : n < 31) (hw : w ≤ n) : ∀ k, ckI (alN (nI n)) (nI w) (x &&& alN (nI n)) k = spI (nI w) x k &&& alN (nI n)
  | 0 => rfl
  | k + 1 => by
    show ckI _ _ _ k ||| (ckI _ _ _ k <<< _ &&& _) = (spI (nI w) x k ||| (spI (nI w) x k <<< _ &&& 2147483647)) &&& _
    rw [ck_in hn hw k]
    generalize spI (nI w) x k = y
    refine b_ext (fun i hi => ?_)
    rw [b_or, b_and, b_and, b_and, b_or, b_and, b_shl (by omega) hi, b_shl (by omega) hi, b_and, al_b ⟨n, hn⟩ ⟨i, hi⟩, al_M ⟨i, hi⟩, al_b ⟨n, hn⟩ ⟨i - w, by omega⟩]
    show (_ && decide (i ≤ n) || !decide (i < w) && (_ && decide (i - w ≤ n)) && decide (i ≤ n)) = ((_ || !decide (i < w) && _ && decide (i < 31)) && decide (i ≤ n))
    by_cases h : i ≤ n
    · rw [decide_eq_true h, decide_eq_true (show i - w ≤ n by omega), decide_eq_true (show i < 31 by omega)]
      simp only [Bool.and_true]
    · rw [decide_eq_false h]
      simp only [Bool.and_false, Bool.or_false]
theorem ck_out {n w : Nat} {x : Int64} (hw31 : w < 31) (hw : n < w) : ∀ k, spI (nI w) x k &&& alN (nI n) = x &&& alN (nI n)
  | 0 => rfl
  | k + 1 => by
    refine Eq.trans ?_ (ck_out hw31 hw k)
    show (spI (nI w) x k ||| (spI (nI w) x k <<< _ &&& 2147483647)) &&& _ = _
    generalize spI (nI w) x k = y
    refine b_ext (fun i hi => ?_)
    rw [b_and, b_or, b_and, b_and, b_shl hw31 hi, al_b ⟨n, by omega⟩ ⟨i, hi⟩]
    show ((_ || !decide (i < w) && _ && _) && decide (i ≤ n)) = (_ && decide (i ≤ n))
    by_cases h : i ≤ n
    · rw [decide_eq_true (show i < w by omega)]
      simp only [Bool.not_true, Bool.false_and, Bool.or_false]
    · rw [decide_eq_false h, Bool.and_false, Bool.and_false]
theorem ck_1 : ∀ n : Fin 31, (1 : Int64) &&& alN (nI n.1) = 1 := by decide +kernel
theorem pc_st {n : Nat} {w : Nat → Int32} {wn d : Nat → Nat} (hn : n < 31) (hw : ∀ c, c < 4 → w c = nI (wn c) ∧ wn c ≤ 2000) : ∀ m, m ≤ 4 → pcP (nI n) w d m = stP w d m &&& alN (nI n)
  | 0, _ => (ck_1 ⟨n, hn⟩).symm
  | m + 1, hm => by
    obtain ⟨ew, hw2⟩ := hw m (by omega)
    show ckS _ _ (w m) (pcP (nI n) w d m) (d m) = spS (w m) (stP w d m) (d m) &&& _
    rw [pc_st hn hw m (by omega), ew]
    unfold ckS spS
    rw [show (31 : Int32) = nI 31 from rfl]
    by_cases h : wn m ≤ n
    · rw [if_pos (nI_le h (by omega)), if_pos (nI_lt (b := 31) (by omega) (by decide))]
      exact ck_in hn h _
    · rw [if_neg (fun y => h ((nI_leI (by omega) (by omega)).mp y))]
      by_cases h2 : wn m < 31
      · rw [if_pos (nI_lt (b := 31) h2 (by decide)), ck_out h2 (by omega)]
      · rw [if_neg (fun y => h2 ((nI_ltI (b := 31) (by omega) (by decide)).mp y))]
def lfC (w : Nat → Int32) (lim : Nat → Nat) (all : Int64) (len : Nat → Nat) : Nat → Nat → Int64 → Int32 → (Nat → Int32) → Nat → PS → PS
  | 0, c, set, coins, rows, _, st => caL w lim all 0 c set coins rows st
  | m + 1, c, set, coins, rows, i, st => lfC w lim all len m (c + 1) (spS (w c) set (dgt len 4 i c)) (coins + nI (dgt len 4 i c)) (upd rows c (nI (dgt len 4 i c))) i st
theorem lc_br {w : Nat → Int32} {lim len : Nat → Nat} {all : Int64} (hl : ∀ c, len c = lim c + 1) : ∀ (m c : Nat) (set : Int64) (coins : Int32) (rows : Nat → Int32) (B : Nat) (st : PS), c + m = 4 → caL w lim all m c set coins rows st = pyK (fun r st => lfC w lim all len m c set coins rows (B * sfx len 4 c + r) st) (sfx len 4 c) st
  | 0, c, set, coins, rows, B, st, hc => by
    have : c = 4 := by omega
    subst this
    rw [sfx_W]
    rfl
  | m + 1, c, set, coins, rows, B, st, hc => by
    rw [caL_s, ← hl c, sfx_s (show c < 4 by omega), pyK_mul]
    refine pyK_c _ (fun q hq a => ?_)
    show caL w lim all m (c + 1) (spS (w c) set q) (coins + nI q) (upd rows c (nI q)) a = _
    rw [lc_br hl m (c + 1) _ _ _ (B * len c + q) a (by omega)]
    refine pyK_c _ (fun r hr b => ?_)
    have e : B * (len c * sfx len 4 (c + 1)) + (q * sfx len 4 (c + 1) + r) = (B * len c + q) * sfx len 4 (c + 1) + r := by rw [Nat.add_mul, Nat.mul_assoc, Nat.add_assoc]
    have hd : dgt len 4 ((B * len c + q) * sfx len 4 (c + 1) + r) c = q := by
      unfold dgt
      rw [Nat.mul_comm (B * len c + q), Nat.mul_add_div (by omega), Nat.div_eq_of_lt hr, Nat.add_zero, Nat.mul_comm B, Nat.mul_add_mod, Nat.mod_eq_of_lt hq]
    rw [e]
    show _ = lfC w lim all len m (c + 1) (spS (w c) set (dgt len 4 _ c)) (coins + nI (dgt len 4 _ c)) (upd rows c (nI (dgt len 4 _ c))) _ b
    rw [hd]
def cyL (n : Nat) : Nat → Nat := pyLn n 0 (lmN n)
def cyV (n : Nat) : Nat → Nat → Int32 := pyV n 0 (lmN n)
theorem cyL_e {n c : Nat} : cyL n c = lmN n c + 1 := by
  show bkN n 0 c + lmN n c + 1 = _
  have : bkN n 0 c = 0 := by unfold bkN; by_cases h : c < n; rw [if_pos h]; rw [if_neg h]
  rw [this, Nat.zero_add]
theorem lm_9 {n c : Nat} : lmN n c ≤ 6 := by unfold lmN; split <;> omega
theorem cyV_e {n i c : Nat} : cyV n i c = nI (dgt (cyL n) 4 i c) := by
  show pyB n 0 c + nI (dgt (cyL n) 4 i c) = _
  have : pyB n 0 c = 0 := by unfold pyB; by_cases h : c < n; rw [if_pos h]; rfl; rw [if_neg h]
  rw [this, Int32.zero_add]
theorem cy_d {n i c : Nat} : dgt (cyL n) 4 i c ≤ 6 := by
  have : dgt (cyL n) 4 i c < cyL n c := Nat.mod_lt _ (by rw [cyL_e]; omega)
  rw [cyL_e] at this
  have := lm_9 (n := n) (c := c)
  omega
theorem ab_n {n : Nat} (h : n < 2 ^ 31) : abI (nI n) = nI n := if_neg (nI_pos h)
theorem cy_sz {n i : Nat} : xSz (cyV n i) 4 = (((0 + nI (dgt (cyL n) 4 i 0)) + nI (dgt (cyL n) 4 i 1)) + nI (dgt (cyL n) 4 i 2)) + nI (dgt (cyL n) 4 i 3) := by
  show (((0 + abI (cyV n i 0)) + abI (cyV n i 1)) + abI (cyV n i 2)) + abI (cyV n i 3) = _
  have hb : ∀ c, dgt (cyL n) 4 i c < 2 ^ 31 := fun c => by have := cy_d (n := n) (i := i) (c := c); omega
  rw [cyV_e, cyV_e, cyV_e, cyV_e, ab_n (hb 0), ab_n (hb 1), ab_n (hb 2), ab_n (hb 3)]
theorem lc_4 {w : Nat → Int32} {n i : Nat} {all : Int64} {r0 : Nat → Int32} {st : PS} : lfC w (lmN n) all (cyL n) 4 0 1 0 r0 i st = if stP w (dgt (cyL n) 4 i) 4 &&& all = all ∧ xSz (cyV n i) 4 < st.1 then (xSz (cyV n i) 4, st.2.1, upd (upd (upd (upd r0 0 (cyV n i 0)) 1 (cyV n i 1)) 2 (cyV n i 2)) 3 (cyV n i 3)) else st := by
  rw [cy_sz, cyV_e, cyV_e, cyV_e, cyV_e]
  rfl
/-- rows of the class: the first that is fewest -/
def fcS (pays : Nat → Bool) (v : Nat → Nat → Int32) (b0 : Nat → Int32) : Nat → Int32 × (Nat → Int32)
  | 0 => (-5, b0)
  | i + 1 => if ((fcS pays v b0 i).1 = -5 ∨ xSz (v i) 4 < (fcS pays v b0 i).1) ∧ pays i = true then (xSz (v i) 4, xTk (v i) (fcS pays v b0 i).2 4) else fcS pays v b0 i
theorem fcS_s {pays : Nat → Bool} {v : Nat → Nat → Int32} {b0 : Nat → Int32} {i : Nat} : fcS pays v b0 (i + 1) = if ((fcS pays v b0 i).1 = -5 ∨ xSz (v i) 4 < (fcS pays v b0 i).1) ∧ pays i = true then (xSz (v i) 4, xTk (v i) (fcS pays v b0 i).2 4) else fcS pays v b0 i := rfl
theorem fc_br {w : Nat → Int32} {n : Nat} {all : Int64} {b0 r0 : Nat → Int32} {pays : Nat → Bool} (hp : ∀ i, pays i = true ↔ stP w (dgt (cyL n) 4 i) 4 &&& all = all) : ∀ i, xRf (fcS pays (cyV n) b0 i) (pyK (fun r st => lfC w (lmN n) all (cyL n) 4 0 1 0 r0 r st) i (1000000, 0, r0))
  | 0 => Or.inl ⟨rfl, rfl⟩
  | i + 1 => by
    have h1 := fc_br (w := w) (n := n) (all := all) (b0 := b0) (r0 := r0) hp i
    obtain ⟨st, hst⟩ : ∃ st, st = pyK (fun r st => lfC w (lmN n) all (cyL n) 4 0 1 0 r0 r st) i (1000000, 0, r0) := ⟨_, rfl⟩
    rw [← hst] at h1
    have e : pyK (fun r st => lfC w (lmN n) all (cyL n) 4 0 1 0 r0 r st) (i + 1) (1000000, 0, r0) = lfC w (lmN n) all (cyL n) 4 0 1 0 r0 i st := by rw [hst]; rfl
    rw [e, lc_4, fcS_s]
    obtain ⟨z, hz, ez⟩ := xSz_b (n := n) (i := i) (back := 0) (pu := lmN n) (by decide) (fun c _ => Nat.le_trans lm_9 (by decide))
    have ez2 : xSz (cyV n i) 4 = nI z := ez
    have hiff : ((fcS pays (cyV n) b0 i).1 = -5 ∨ xSz (cyV n i) 4 < (fcS pays (cyV n) b0 i).1) ↔ xSz (cyV n i) 4 < st.1 := by
      rcases h1 with ⟨q1, q2⟩ | ⟨q1, ⟨y, hy, ey⟩, -⟩
      · rw [q2, ez2]
        exact ⟨fun _ => nI_lt (b := 1000000) (by omega) (by decide), fun _ => Or.inl q1⟩
      · rw [q1]
        exact ⟨fun x => x.resolve_left (by rw [ey]; exact nI_m5 (by omega)), Or.inr⟩
    by_cases hlt : stP w (dgt (cyL n) 4 i) 4 &&& all = all ∧ xSz (cyV n i) 4 < st.1
    · rw [if_pos hlt, if_pos ⟨hiff.mpr hlt.2, (hp i).mpr hlt.1⟩]
      refine Or.inr ⟨rfl, ⟨z, hz, ez2⟩, fun c hc => ?_⟩
      show xTk (cyV n i) _ 4 c = upd (upd (upd (upd r0 0 _) 1 _) 2 _) 3 _ c
      rw [xTk_r hc]
      match c, hc with
      | 0, _ => rfl
      | 1, _ => rfl
      | 2, _ => rfl
      | 3, _ => rfl
    · rw [if_neg hlt, if_neg (fun y => hlt ⟨(hp i).mp y.2, hiff.mp y.1⟩)]
      exact h1
def paysC (n : Int32) (w : Nat → Int32) (n0 i : Nat) : Bool := decide (pcP n w (dgt (cyL n0) 4 i) 4 = alN n)
theorem ca_br {s : Nat → Int32} (hR : RI s) {nn : Nat} {b0 : Nat → Int32} (hn : nn < 31) : xRf (fcS (paysC (nI nn) (wv s) (cN s 0)) (cyV (cN s 0)) b0 (sfx (cyL (cN s 0)) 4 0)) (caA s (nI nn)) := by
  have e := lc_br (w := wv s) (lim := lmN (cN s 0)) (len := cyL (cN s 0)) (all := alN (nI nn)) (fun _ => cyL_e) 4 0 1 0 (fun _ => 0) 0 (1000000, 0, fun _ => 0) rfl
  have e2 : pyK (fun r st => lfC (wv s) (lmN (cN s 0)) (alN (nI nn)) (cyL (cN s 0)) 4 0 1 0 (fun _ => 0) (0 * sfx (cyL (cN s 0)) 4 0 + r) st) (sfx (cyL (cN s 0)) 4 0) (1000000, 0, fun _ => 0) = pyK (fun r st => lfC (wv s) (lmN (cN s 0)) (alN (nI nn)) (cyL (cN s 0)) 4 0 1 0 (fun _ => 0) r st) (sfx (cyL (cN s 0)) 4 0) (1000000, 0, fun _ => 0) := pyK_c _ (fun j _ a => by rw [Nat.zero_mul, Nat.zero_add])
  unfold caA
  rw [e, e2]
  refine fc_br (fun i => ?_) _
  unfold paysC
  rw [decide_eq_true_iff, pc_st hn (fun c _ => ⟨(wv_bd hR c).1, (wv_bd hR c).2.1⟩) 4 (Nat.le_refl _)]
