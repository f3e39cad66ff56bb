/-! rows gone through one by one: digits, the last the fastest -/
def prL (len : Nat → Nat) : Nat → Nat → Nat
  | _, 0 => 1
  | a, k + 1 => len a * prL len (a + 1) k
/-- the numbers of rows from place c on, W places -/
def sfx (len : Nat → Nat) (W c : Nat) : Nat := prL len c (W - c)
theorem sfx_W {len : Nat → Nat} {W : Nat} : sfx len W W = 1 := by unfold sfx; rw [Nat.sub_self]; rfl
theorem sfx_s {len : Nat → Nat} {W c : Nat} (h : c < W) : sfx len W c = len c * sfx len W (c + 1) := by
  unfold sfx
  rw [show W - c = (W - (c + 1)) + 1 by omega]
  rfl
/-- digit c of row i -/
def dgt (len : Nat → Nat) (W i c : Nat) : Nat := i / sfx len W (c + 1) % len c
theorem sfx_d {len : Nat → Nat} {W c i : Nat} (h : c < W) : i / sfx len W c = i / sfx len W (c + 1) / len c := by rw [sfx_s h, Nat.mul_comm, Nat.div_div_eq_div_mul]
theorem sfx_eq {len : Nat → Nat} {W i : Nat} : ∀ d m, m + d ≤ W → (i + 1) / sfx len W (m + d) = i / sfx len W (m + d) → (i + 1) / sfx len W m = i / sfx len W m
  | 0, m, _, h => h
  | d + 1, m, hm, h => by
    have h1 := sfx_eq (len := len) (W := W) (i := i) d (m + 1) (by omega) (by rw [show m + 1 + d = m + (d + 1) by omega]; exact h)
    rw [sfx_d (by omega), h1, ← sfx_d (by omega)]
theorem md_lt {x n : Nat} (h : x % n + 1 < n) : (x + 1) / n = x / n ∧ (x + 1) % n = x % n + 1 := by
  have h0 : 0 < n := by omega
  have e := Nat.div_add_mod x n
  have e2 : x + 1 = n * (x / n) + (x % n + 1) := by omega
  constructor
  · rw [e2, Nat.mul_add_div h0, Nat.div_eq_of_lt h, Nat.add_zero]
  · rw [e2, Nat.mul_add_mod, Nat.mod_eq_of_lt h]
theorem md_eq {x n : Nat} (h : x % n + 1 = n) : (x + 1) / n = x / n + 1 ∧ (x + 1) % n = 0 := by
  have h0 : 0 < n := by omega
  have e := Nat.div_add_mod x n
  have e2 : x + 1 = n * (x / n + 1) := by rw [Nat.mul_add, Nat.mul_one]; omega
  constructor
  · rw [e2, Nat.mul_div_cancel_left _ h0]
  · rw [e2, Nat.mul_mod_right]
/-- bounds that fit the lengths -/
def xLH (lo hi : Nat → Int32) (len : Nat → Nat) (W : Nat) : Prop := ∀ c, c < W → 1 ≤ len c ∧ len c ≤ 1000 ∧ -1000 ≤ (lo c).toInt ∧ (lo c).toInt ≤ 1000 ∧ (hi c).toInt = (lo c).toInt + len c - 1
theorem lh_lt {lo hi : Nat → Int32} {len : Nat → Nat} {W c d : Nat} (h : xLH lo hi len W) (hc : c < W) (hd : d < len c) : (lo c + nI d < hi c) ↔ d + 1 < len c := by
  obtain ⟨h1, h2, h3, h4, h5⟩ := h c hc
  rw [Int32.lt_iff_toInt_lt, i_add rfl (nI_toInt (by omega)) (by omega) (by omega), h5]
  omega
/-- the next row -/
theorem odo {lo hi : Nat → Int32} {len : Nat → Nat} {W i : Nat} (h : xLH lo hi len W) : ∀ (m : Nat) (f : Nat → Int32), m ≤ W → (∀ c, c < m → f c = lo c + nI (dgt len W i c)) → (∀ c, m ≤ c → c < W → f c = lo c + nI (dgt len W (i + 1) c)) → (i + 1) / sfx len W m = i / sfx len W m + 1 → ∀ c, c < W → xNx lo hi m f c = lo c + nI (dgt len W (i + 1) c)
  | 0, f, _, _, h2, _, c, hc => h2 c (Nat.zero_le _) hc
  | m + 1, f, hm, h1, h2, h3, c, hc => by
    have hl := (h m (by omega)).1
    have hdl : dgt len W i m < len m := Nat.mod_lt _ (by omega)
    have e1 : dgt len W (i + 1) m = (i / sfx len W (m + 1) + 1) % len m := by unfold dgt; rw [h3]
    show (if f m < hi m then upd f m (f m + 1) else xNx lo hi m (upd f m (lo m))) c = _
    have hf := h1 m (by omega)
    by_cases hz : dgt len W i m + 1 < len m
    · rw [hf, if_pos ((lh_lt h (by omega) hdl).mpr hz)]
      obtain ⟨q1, q2⟩ := md_lt hz
      by_cases hcm : c = m
      · rw [hcm, upd_e, e1, q2, Int32.add_assoc, nI_1]; rfl
      · rw [upd_n hcm]
        by_cases hlt : c < m
        · rw [h1 c (by omega)]
          have e2 : (i + 1) / sfx len W m = i / sfx len W m := by rw [sfx_d (by omega), h3, q1, ← sfx_d (by omega)]
          have e3 := sfx_eq (len := len) (W := W) (i := i) (m - (c + 1)) (c + 1) (by omega) (by rw [show c + 1 + (m - (c + 1)) = m by omega]; exact e2)
          unfold dgt
          rw [e3]
        · exact h2 c (by omega) hc
    · rw [hf, if_neg (fun z => hz ((lh_lt h (by omega) hdl).mp z))]
      have hz2 : i / sfx len W (m + 1) % len m + 1 = len m := by have : dgt len W i m = i / sfx len W (m + 1) % len m := rfl; omega
      obtain ⟨q1, q2⟩ := md_eq hz2
      refine odo h m _ (by omega) (fun c hc2 => ?_) (fun c hc1 hc2 => ?_) ?_ c hc
      · rw [upd_n (by omega)]; exact h1 c (by omega)
      · by_cases hcm : c = m
        · rw [hcm, upd_e, e1, q2]; exact (Int32.add_zero _).symm
        · rw [upd_n hcm]; exact h2 c (by omega) hc2
      · rw [sfx_d (c := m) (i := i + 1) (by omega), h3, q1, sfx_d (c := m) (i := i) (by omega)]
/-- a row stands at step i -/
def xRwAt (lo : Nat → Int32) (len : Nat → Nat) (W i : Nat) (f : Nat → Int32) : Prop := ∀ c, c < W → f c = lo c + nI (dgt len W i c)
theorem xRwAt.st {lo hi : Nat → Int32} {len : Nat → Nat} {W i : Nat} {f : Nat → Int32} (h : xLH lo hi len W) (hf : xRwAt lo len W i f) : xRwAt lo len W (i + 1) (xNx lo hi W f) := odo h W f (Nat.le_refl _) hf (fun c h1 h2 => by omega) (by rw [sfx_W, Nat.div_one, Nat.div_one])
theorem xRwAt.z {lo f : Nat → Int32} {len : Nat → Nat} {W : Nat} (h : ∀ c, c < W → f c = lo c) : xRwAt lo len W 0 f := fun c hc => by
  rw [h c hc]
  unfold dgt
  rw [Nat.zero_div, Nat.zero_mod]
  exact (Int32.add_zero _).symm
def prU (len : Nat → Nat) : Nat → Nat
  | 0 => 1
  | m + 1 => prU len m * len m
theorem prU_s {len : Nat → Nat} {W : Nat} : ∀ m, m ≤ W → prU len m * sfx len W m = sfx len W 0
  | 0, _ => Nat.one_mul _
  | m + 1, h => by
    show prU len m * len m * sfx len W (m + 1) = _
    rw [Nat.mul_assoc, ← sfx_s (by omega)]
    exact prU_s m (by omega)
theorem prU_W {len : Nat → Nat} {W : Nat} : prU len W = sfx len W 0 := by
  have := prU_s (len := len) (W := W) W (Nat.le_refl _)
  rw [sfx_W, Nat.mul_one] at this
  exact this
theorem xPr_n {lo hi : Nat → Int32} {len : Nat → Nat} {W : Nat} (h : xLH lo hi len W) : ∀ m, m ≤ W → xPr lo hi m = nI (prU len m)
  | 0, _ => rfl
  | m + 1, hm => by
    show xPr lo hi m * (hi m - lo m + 1) = nI (prU len m * len m)
    obtain ⟨h1, h2, h3, h4, h5⟩ := h m (by omega)
    have e : hi m - lo m + 1 = nI (len m) := by
      apply Int32.toInt_inj.mp
      rw [i_add (i_sub rfl rfl (by omega) (by omega)) (show (1 : Int32).toInt = 1 from rfl) (by omega) (by omega), nI_toInt (by omega), h5]
      omega
    rw [xPr_n h m (by omega), e, pk_mul]
theorem xPr_a {lo hi : Nat → Int32} {len : Nat → Nat} {W : Nat} (h : xLH lo hi len W) : xPr lo hi W = nI (sfx len W 0) := by rw [xPr_n h W (Nat.le_refl _), prU_W]
/-! counting -/
def sm (f : Nat → Nat) : Nat → Nat
  | 0 => 0
  | n + 1 => sm f n + f n
theorem sm_c {f f' : Nat → Nat} : ∀ n, (∀ j, j < n → f j = f' j) → sm f n = sm f' n
  | 0, _ => rfl
  | n + 1, h => by show sm f n + f n = sm f' n + f' n; rw [sm_c n (fun j hj => h j (by omega)), h n (by omega)]
theorem ctB_c {p p' : Nat → Bool} : ∀ n, (∀ j, j < n → p j = p' j) → ctB p n = ctB p' n
  | 0, _ => rfl
  | n + 1, h => by show ctB p n + (if p n = true then 1 else 0) = ctB p' n + _; rw [ctB_c n (fun j hj => h j (by omega)), h n (by omega)]
theorem ctB_add {p : Nat → Bool} {a : Nat} : ∀ b, ctB p (a + b) = ctB p a + ctB (fun j => p (a + j)) b
  | 0 => rfl
  | b + 1 => by
    show ctB p (a + b) + (if p (a + b) = true then 1 else 0) = ctB p a + (ctB (fun j => p (a + j)) b + if p (a + b) = true then 1 else 0)
    rw [ctB_add b, Nat.add_assoc]
theorem ctB_mul {p : Nat → Bool} {M : Nat} : ∀ N, ctB p (N * M) = sm (fun a => ctB (fun b => p (a * M + b)) M) N
  | 0 => by rw [Nat.zero_mul]; rfl
  | N + 1 => by
    rw [Nat.add_mul, Nat.one_mul, ctB_add, ctB_mul N]
    rfl
theorem sm_add {f f' : Nat → Nat} : ∀ n, sm (fun j => f j + f' j) n = sm f n + sm f' n
  | 0 => rfl
  | n + 1 => by show sm (fun j => f j + f' j) n + (f n + f' n) = sm f n + f n + (sm f' n + f' n); rw [sm_add n]; omega
theorem sm_0 : ∀ n, sm (fun _ => 0) n = 0
  | 0 => rfl
  | n + 1 => by show sm (fun _ => 0) n + 0 = 0; rw [sm_0 n]
theorem ctB_sm {p : Nat → Bool} : ∀ n, ctB p n = sm (fun j => if p j = true then 1 else 0) n
  | 0 => rfl
  | n + 1 => by show ctB p n + _ = sm _ n + _; rw [ctB_sm n]
theorem sm_sw {f : Nat → Nat → Nat} {M : Nat} : ∀ N, sm (fun a => sm (fun b => f a b) M) N = sm (fun b => sm (fun a => f a b) N) M
  | 0 => (sm_0 M).symm
  | N + 1 => by
    show sm (fun a => sm (fun b => f a b) M) N + sm (fun b => f N b) M = sm (fun b => sm (fun a => f a b) N + f N b) M
    rw [sm_sw N, sm_add]
def cns (x : Nat) (v : Nat → Nat) : Nat → Nat
  | 0 => x
  | c + 1 => v c
/-- a question of a vector's first n numbers alone -/
def vx (n : Nat) (p : (Nat → Nat) → Bool) : Prop := ∀ v v', (∀ c, c < n → v c = v' c) → p v = p v'
theorem vx.cns {n x : Nat} {p : (Nat → Nat) → Bool} (h : vx (n + 1) p) : vx n (fun v => p (cns x v)) := fun v v' hv => h _ _ (fun c hc => by
  match c, hc with
  | 0, _ => rfl
  | c + 1, hc => exact hv c (by omega))
/-- counting with the first number the slowest is counting with it the fastest -/
theorem cnt_rev {t : Nat} (ht : 1 ≤ t) : ∀ (n : Nat) (p : (Nat → Nat) → Bool), vx n p → ctB (fun i => p (fun c => 1 + i / t ^ (n - 1 - c) % t)) (t ^ n) = ctB (fun g => p (fun c => 1 + g / t ^ c % t)) (t ^ n)
  | 0, p, h => ctB_c _ (fun j _ => h _ _ (fun c hc => by omega))
  | n + 1, p, h => by
    have hp : 0 < t ^ n := Nat.pow_pos (by omega)
    have h1 : ctB (fun i => p (fun c => 1 + i / t ^ (n + 1 - 1 - c) % t)) (t ^ (n + 1)) = sm (fun q => ctB (fun i => p (cns (1 + q) (fun c => 1 + i / t ^ (n - 1 - c) % t))) (t ^ n)) t := by
      rw [Nat.pow_succ, Nat.mul_comm, ctB_mul]
      refine sm_c _ (fun q hq => ctB_c _ (fun r hr => h _ _ (fun c hc => ?_)))
      match c, hc with
      | 0, _ =>
        show 1 + (q * t ^ n + r) / t ^ n % t = 1 + q
        rw [Nat.mul_comm, Nat.mul_add_div hp, Nat.div_eq_of_lt hr, Nat.add_zero, Nat.mod_eq_of_lt hq]
      | c + 1, hc =>
        show 1 + (q * t ^ n + r) / t ^ (n + 1 - 1 - (c + 1)) % t = 1 + r / t ^ (n - 1 - c) % t
        have e : t ^ n = t ^ (n - 1 - c) * (t ^ c * t) := by rw [← Nat.pow_succ, ← Nat.pow_add]; congr 1; omega
        have hp2 : 0 < t ^ (n - 1 - c) := Nat.pow_pos (by omega)
        rw [show n + 1 - 1 - (c + 1) = n - 1 - c by omega, e, Nat.mul_comm q, Nat.mul_assoc, Nat.mul_add_div hp2, Nat.mul_comm (t ^ c) t, Nat.mul_assoc, Nat.mul_add_mod]
    have h2 : ctB (fun g => p (fun c => 1 + g / t ^ c % t)) (t ^ (n + 1)) = sm (fun q => ctB (fun g => p (cns (1 + q) (fun c => 1 + g / t ^ c % t))) (t ^ n)) t := by
      rw [Nat.pow_succ, ctB_mul]
      have e1 : ∀ f : Nat → Nat → Bool, sm (fun q => ctB (fun g => f g q) (t ^ n)) t = sm (fun g => ctB (fun q => f g q) t) (t ^ n) := fun f => by
        rw [sm_c t (fun q _ => ctB_sm (p := fun g => f g q) (t ^ n)), sm_c (t ^ n) (fun g _ => ctB_sm (p := fun q => f g q) t)]
        exact sm_sw t
      rw [e1 (fun g q => p (cns (1 + q) (fun c => 1 + g / t ^ c % t)))]
      refine sm_c _ (fun g hg => ctB_c _ (fun q hq => h _ _ (fun c hc => ?_)))
      match c, hc with
      | 0, _ =>
        show 1 + (g * t + q) / t ^ 0 % t = 1 + q
        rw [Nat.pow_zero, Nat.div_one, Nat.mul_comm, Nat.mul_add_mod, Nat.mod_eq_of_lt hq]
      | c + 1, _ =>
        show 1 + (g * t + q) / t ^ (c + 1) % t = 1 + g / t ^ c % t
        rw [Nat.pow_succ, Nat.mul_comm (t ^ c) t, ← Nat.div_div_eq_div_mul, Nat.mul_comm g, Nat.mul_add_div (by omega), Nat.div_eq_of_lt hq, Nat.add_zero]
    rw [h1, h2]
    exact sm_c _ (fun q _ => cnt_rev ht n _ h.cns)
